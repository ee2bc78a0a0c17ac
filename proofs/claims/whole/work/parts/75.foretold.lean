/-! ===== what comes ===== -/
/-- they agree but for the book -/
def Ae (A B : Int → Int) : Prop := ∀ j : Int, j < 1936 → j ≠ 11 → A j = B j
theorem Ae.refl (A : Int → Int) : Ae A A := fun _ _ _ => rfl
theorem Ae.trans {A B C : Int → Int} (h : Ae A B) (h2 : Ae B C) : Ae A C := fun j a b => (h j a b).trans (h2 j a b)
theorem Ae.symm {A B : Int → Int} (h : Ae A B) : Ae B A := fun j a b => (h j a b).symm
theorem Ae.put {A B : Int → Int} (h : Ae A B) {k v w : Int} (hv : v = w) : Ae (aU A k v) (aU B k w) := by
  intro j a b
  by_cases q : j = k
  · rw [aU_hit q, aU_hit q]; exact hv
  · rw [aU_miss q, aU_miss q]; exact h j a b
theorem Ae.ch {A B : Int → Int} (g : Ae A B) (h1 : A 1 ≤ 6) : chS A = chS B := by
  funext z
  unfold chS
  rw [← g 1 (by omega) (by omega)]
  by_cases q : 0 ≤ z ∧ z < A 1
  · rw [if_pos q, if_pos q, g (54 + z) (by omega) (by omega)]
  · rw [if_neg q, if_neg q]
theorem Ae.eT {A B : Int → Int} (g : Ae A B) (h1 : A 1 ≤ 6) {c h : Int} (hc : 0 ≤ c ∧ c < 6) (hh : 0 ≤ h ∧ h < 6) : envT A c h = envT B c h := by
  unfold envT
  rw [g.ch h1, g 9 (by omega) (by omega), g (54 + c) (by omega) (by omega), g (12 + 3 * c + 2) (by omega) (by omega), g (12 + 3 * c) (by omega) (by omega), g (30 + 2 * h) (by omega) (by omega), g (30 + 2 * h + 1) (by omega) (by omega), g (12 + 3 * c + 1) (by omega) (by omega)]
theorem Ae.eG {A B : Int → Int} (g : Ae A B) (h1 : A 1 ≤ 6) {c : Int} (hc : 0 ≤ c ∧ c < 6) : envG A c = envG B c := by
  unfold envG
  rw [g.ch h1, g 9 (by omega) (by omega), g (54 + c) (by omega) (by omega), g (12 + 3 * c + 2) (by omega) (by omega), g (12 + 3 * c) (by omega) (by omega), g (12 + 3 * c + 1) (by omega) (by omega)]
theorem Ae.tk {A B : Int → Int} (g : Ae A B) (h1 : A 1 ≤ 6) {c h : Int} (hc : 0 ≤ c ∧ c < 6) (hh : 0 ≤ h ∧ h < 6) (y : Option (En → Int)) : takesS A y c h = takesS B y c h := by
  cases y with
  | none => exact g (54 + c) (by omega) (by omega)
  | some f =>
    show clampS 0 99 (f (envT A c h)) = clampS 0 99 (f (envT B c h))
    rw [g.eT h1 hc hh]
theorem Ae.gs {A B : Int → Int} (g : Ae A B) (h1 : A 1 ≤ 6) {c : Int} (hc : 0 ≤ c ∧ c < 6) (y : Option (En → Int)) : goesS A y c = goesS B y c := by
  cases y with
  | none => rfl
  | some f =>
    show clampS (-99) 99 (f (envG A c)) = clampS (-99) 99 (f (envG B c))
    rw [g.eG h1 hc]
theorem Ae.wander {A B : Int → Int} (g : Ae A B) {c : Int} (hc : 0 ≤ c ∧ c < 6) : Ae (wanderS A c) (wanderS B c) := by
  have g10 := g 10 (by omega) (by omega)
  have ga : Ae (anewS A) (anewS B) := by
    unfold anewS
    exact g.put (by rw [g10])
  unfold wanderS
  rw [← g10]
  split
  · exact ga
  · unfold moveS
    exact ga.put (by rw [ga (12 + 3 * c) (by omega) (by omega)])
theorem Ae.take {A B : Int → Int} (g : Ae A B) {c h t : Int} (hc : 0 ≤ c ∧ c < 6) (hh : 0 ≤ h ∧ h < 6) : Ae (takeS A c h t) (takeS B c h t) := by
  unfold takeS biteS
  rw [← g (30 + 2 * h) (by omega) (by omega), ← g (12 + 3 * c + 2) (by omega) (by omega)]
  exact (g.put rfl).put rfl
theorem outW_ae {b : Bool} {A : Int → Int} {c w : Int} (h11 : 0 ≤ A 11) (hc : 0 ≤ c ∧ c < 6) : Ae (outW b A c w) (aU (aU A (12 + 3 * c) (A (42 + A (12 + 3 * c + 1)))) (12 + 3 * c + 1) (-1)) := by
  cases b
  · exact Ae.refl _
  · intro j a b
    show outS A c w j = _
    unfold outS
    exact noteS_o ⟨a, b, by rw [aU_miss (by omega), aU_miss (by omega)]; exact h11⟩
theorem Ae.out {A B : Int → Int} (g : Ae A B) {b b2 : Bool} {c w : Int} (hA : 0 ≤ A 11) (hB : 0 ≤ B 11) (hc : 0 ≤ c ∧ c < 6) (hh : 0 ≤ A (12 + 3 * c + 1) ∧ A (12 + 3 * c + 1) < 6) : Ae (outW b A c w) (outW b2 B c w) := by
  have e1 := g (12 + 3 * c + 1) (by omega) (by omega)
  refine (outW_ae hA hc).trans (Ae.trans ?_ (outW_ae hB hc).symm)
  exact (g.put (by rw [← e1]; exact g _ (by omega) (by omega))).put rfl
theorem Ae.cat {wr wr2 : Bool} {y0 y1 : Option (En → Int)} {k : Nat} {s t : (Int → Int) × Int} (g : Ae s.1 t.1) (hW : WN s.1) (hV : WN t.1) (hk : (k : Int) < s.1 1) : Ae (catS wr y0 y1 k s).1 (catS wr2 y0 y1 k t).1 := by
  have w0 := hW.1
  have w1 := hW.2.1
  have wc := hW.2.2.2.2.2.1 k (by omega) hk
  have e1 := g (12 + 3 * k + 1) (by omega) (by omega)
  show Ae (if s.1 (12 + 3 * k + 1) = -1 then wanderS s.1 k else if 0 < goesS (tkA s.1 y0 k) y1 k then outW wr (tkA s.1 y0 k) k 2 else tkA s.1 y0 k) (if t.1 (12 + 3 * k + 1) = -1 then wanderS t.1 k else if 0 < goesS (tkA t.1 y0 k) y1 k then outW wr2 (tkA t.1 y0 k) k 2 else tkA t.1 y0 k)
  rw [← e1]
  by_cases h1 : s.1 (12 + 3 * k + 1) = -1
  · rw [if_pos h1, if_pos h1]
    exact g.wander (by omega)
  · rw [if_neg h1, if_neg h1]
    have gt : Ae (tkA s.1 y0 k) (tkA t.1 y0 k) := by
      unfold tkA
      rw [← e1, ← g.tk (by omega) (by omega) (by omega) y0]
      exact g.take (by omega) (by omega)
    have to : ∀ j : Int, j ≠ 30 + 2 * s.1 (12 + 3 * k + 1) → j ≠ 12 + 3 * k + 2 → tkA s.1 y0 k j = s.1 j := fun j a b => takeS_o ⟨a, b⟩
    have to2 : ∀ j : Int, j ≠ 30 + 2 * t.1 (12 + 3 * k + 1) → j ≠ 12 + 3 * k + 2 → tkA t.1 y0 k j = t.1 j := fun j a b => takeS_o ⟨a, b⟩
    have t1 := to 1 (by omega) (by omega)
    have t11 := to 11 (by omega) (by omega)
    have u11 := to2 11 (by omega) (by omega)
    have t13 := to (12 + 3 * k + 1) (by omega) (by omega)
    have s11 := hW.2.2.2.2.1
    have v11 := hV.2.2.2.2.1
    rw [← gt.gs (by omega) (by omega) y1]
    by_cases h2 : 0 < goesS (tkA s.1 y0 k) y1 k
    · rw [if_pos h2, if_pos h2]
      exact gt.out (by omega) (by omega) (by omega) (by omega)
    · rw [if_neg h2, if_neg h2]
      exact gt
theorem Ae.pass {wr wr2 : Bool} {y0 y1 : Option (En → Int)} {A B : Int → Int} (g : Ae A B) (hW : WN A) (hV : WN B) : Ae (passA wr y0 y1 A) (passA wr2 y0 y1 B) := by
  have e1 := g 1 (by omega) (by omega)
  have key : ∀ n : Nat, (n : Int) ≤ A 1 → Ae (passC wr y0 y1 A n).1 (passC wr2 y0 y1 B n).1 := by
    intro n
    induction n with
    | zero => intro _; exact g
    | succ n ih =>
      intro hn
      have p1 := passC_ok (wr := wr) (y0 := y0) (y1 := y1) hW n (by omega)
      have p2 := passC_ok (wr := wr2) (y0 := y0) (y1 := y1) hV n (by omega)
      have a1 := p1.2.1 1 (by omega) (by omega) (by omega)
      exact Ae.cat (ih (by omega)) p1.1 p2.1 (by show (n : Int) < (passC wr y0 y1 A n).1 1; rw [a1]; omega)
  unfold passA
  rw [← e1, ← g 9 (by omega) (by omega)]
  have w1 := hW.2.1
  exact (key (A 1).toNat (by omega)).put rfl
/-- the hours that are only foretold -/
def fpF (wr : Bool) (y0 y1 : Option (En → Int)) (_ : Nat) (B : Int → Int) : Int → Int := if B 9 < 9999 then passA wr y0 y1 B else B
def fpS (wr : Bool) (y0 y1 : Option (En → Int)) (A : Int → Int) (n : Nat) : Int → Int := itr (fpF wr y0 y1) n A
theorem fpS_s {wr : Bool} {y0 y1 : Option (En → Int)} {A : Int → Int} {n : Nat} : fpS wr y0 y1 A (n + 1) = if fpS wr y0 y1 A n 9 < 9999 then passA wr y0 y1 (fpS wr y0 y1 A n) else fpS wr y0 y1 A n := rfl
theorem fpS_ok {wr : Bool} {y0 y1 : Option (En → Int)} {A : Int → Int} (hW : WN A) (n : Nat) : WN (fpS wr y0 y1 A n) ∧ (∀ j : Int, j ≠ 9 → j ≠ 10 → j ≠ 11 → (j < 12 ∨ (42 ≤ j ∧ j < 1936)) → fpS wr y0 y1 A n j = A j) := by
  induction n with
  | zero => exact ⟨hW, fun _ _ _ _ _ => rfl⟩
  | succ n ih =>
    rw [fpS_s]
    by_cases h : fpS wr y0 y1 A n 9 < 9999
    · rw [if_pos h]
      have p := passA_ok (wr := wr) (y0 := y0) (y1 := y1) ih.1 h
      exact ⟨p.1, fun j a b c x => (p.2.1 j a b c x).trans (ih.2 j a b c x)⟩
    · rw [if_neg h]
      exact ih
theorem fpS_ae {wr wr2 : Bool} {y0 y1 : Option (En → Int)} {A : Int → Int} (hW : WN A) (n : Nat) : Ae (fpS wr y0 y1 A n) (fpS wr2 y0 y1 A n) := by
  induction n with
  | zero => exact Ae.refl _
  | succ n ih =>
    rw [fpS_s, fpS_s, ← ih 9 (by omega) (by omega)]
    by_cases h : fpS wr y0 y1 A n 9 < 9999
    · rw [if_pos h, if_pos h]
      exact ih.pass (fpS_ok hW n).1 (fpS_ok hW n).1
    · rw [if_neg h, if_neg h]
      exact ih
theorem catS_f {y0 y1 : Option (En → Int)} {k : Nat} {s : (Int → Int) × Int} (hW : WN s.1) (hk : (k : Int) < s.1 1) {j : Int} (hj : 1936 ≤ j) : (catS false y0 y1 k s).1 j = s.1 j := by
  have w0 := hW.1
  have w1 := hW.2.1
  have wc := hW.2.2.2.2.2.1 k (by omega) hk
  show (if s.1 (12 + 3 * k + 1) = -1 then wanderS s.1 k else if 0 < goesS (tkA s.1 y0 k) y1 k then outW false (tkA s.1 y0 k) k 2 else tkA s.1 y0 k) j = _
  split
  · exact wanderS_o (by omega)
  · have to : tkA s.1 y0 k j = s.1 j := takeS_o ⟨by omega, by omega⟩
    split
    · show aU (aU (tkA s.1 y0 k) _ _) _ _ j = _
      rw [aU_miss (by omega), aU_miss (by omega)]
      exact to
    · exact to
theorem fpS_f {y0 y1 : Option (En → Int)} {A : Int → Int} (hW : WN A) (n : Nat) {j : Int} (hj : 1936 ≤ j) : fpS false y0 y1 A n j = A j := by
  induction n with
  | zero => rfl
  | succ n ih =>
    have hWn := (fpS_ok (wr := false) (y0 := y0) (y1 := y1) hW n).1
    rw [fpS_s]
    by_cases h : fpS false y0 y1 A n 9 < 9999
    · rw [if_pos h]
      refine Eq.trans ?_ ih
      generalize fpS false y0 y1 A n = B at hWn
      have w1 := hWn.2.1
      have key : ∀ m : Nat, (m : Int) ≤ B 1 → (passC false y0 y1 B m).1 j = B j := by
        intro m
        induction m with
        | zero => intro _; rfl
        | succ m ih2 =>
          intro hm
          have p1 := passC_ok (wr := false) (y0 := y0) (y1 := y1) hWn m (by omega)
          have a1 := p1.2.1 1 (by omega) (by omega) (by omega)
          exact (catS_f p1.1 (by rw [a1]; omega) hj).trans (ih2 (by omega))
      unfold passA
      rw [aU_miss (by omega)]
      exact key _ (by omega)
    · rw [if_neg h]
      exact ih
-- class
theorem CI.ofN {d d' : aI} {S : aS} (hS : sOK S) (h : CI d S) (c : CN d' 1 S.1) (g : ∀ k, k < 85 → (k < 2 ∨ 10 < k) → d' k = d k) : CI d' S := by
  have s2 := hS.1.2.2.1
  obtain ⟨⟨b1, b2, b3, b4, b5, b6, b7, b8, b9⟩, h2, h3, h4, h5, h6, h7, h8⟩ := h
  refine ⟨⟨c, b2.of (fun k a b => g k (by omega) (by omega)), by rw [g 1 (by omega) (by omega)]; exact b3, by rw [g 1 (by omega) (by omega)]; exact b4, b5.of (fun k a b => g k (by omega) (by omega)), b6.of (fun k a b => g k (by omega) (by omega)), b7.of (fun k a b => g k (by omega) (by omega)), b8.of (fun k a b => g k (by omega) (by omega)), by rw [g (1 + 27) (by omega) (by omega)]; exact b9⟩, h2.of (fun k a b => g k (by omega) (by omega)), fun t ht => (h3 t ht).of (fun k a b => g k (by omega) (by omega)), ?_, ?_, ?_, ?_, ?_⟩
  · rw [g 78 (by omega) (by omega)]; exact h4
  · rw [g 83 (by omega) (by omega)]; exact h5
  · rw [g 83 (by omega) (by omega)]; exact h6
  · rw [g 83 (by omega) (by omega)]; exact h7
  · rw [g 84 (by omega) (by omega)]; exact h8
theorem cq_foresee {d : aI} {e : aJ} {S : aS} (hS : sOK S) (hC : CI d S) {n : Nat} (hn : n ≤ 60) {x2 x3 x5 : Int32} : ∃ d', a_run stX10_foretold (73, [some (.ref 0), some (.int (iI n)), some (.int x2), some (.int x3), some (.ref 2), some (.int x5), some (.int (iI (0 : Nat)))], d, e) = a_run stX10_foretold (73, [some (.ref 0), some (.int (iI n)), some (.int x2), some (.int x3), some (.ref 2), some (.int x5), some (.int (iI (n : Nat)))], d', e) ∧ CN d' 1 (fpS true (lawT S) (lawG S) S.1 n) ∧ Kx d d' := by
  have key := run_invR (st := stX10_foretold) (fun k p => ∃ d', p = (73, [some (.ref 0), some (.int (iI n)), some (.int x2), some (.int x3), some (.ref 2), some (.int x5), some (.int (iI (k : Nat)))], d', e) ∧ CN d' 1 (fpS true (lawT S) (lawG S) S.1 k) ∧ Kx d d') n (p0 := (73, [some (.ref 0), some (.int (iI n)), some (.int x2), some (.int x3), some (.ref 2), some (.int x5), some (.int (iI (0 : Nat)))], d, e)) ⟨d, rfl, hC.cn, Kx.refl d⟩ ?_
  · obtain ⟨p, ⟨d', rfl, c, f⟩, q⟩ := key
    exact ⟨d', q, c, f⟩
  · rintro k p hk ⟨d', rfl, c, f⟩
    have ok := fpS_ok (wr := true) (y0 := lawT S) (y1 := lawG S) hS.1.1 k
    rw [fpS_s]
    by_cases h9 : fpS true (lawT S) (lawG S) S.1 k 9 < 9999
    · rw [if_pos h9]
      have ru : RU d' (fpS true (lawT S) (lawG S) S.1 k) (lawT S) (lawG S) := (hC.ru hS).of (fun k hk => f k (by omega)) (ok.2 2 (by omega) (by omega) (by omega) (by omega)) (ok.2 3 (by omega) (by omega) (by omega) (by omega))
      obtain ⟨d2, q1, q2, q3⟩ := cq_pass0 (e := e) c ok.1 ru h9
      generalize passN true (lawT S) (lawG S) (fpS true (lawT S) (lawG S) S.1 k) = z at q1
      refine ⟨_, a_run_step (p2 := (73, [some (.ref 0), some (.int (iI n)), some (.int x2), some (.int x3), some (.ref 2), some (.int x5), some (.int (iI (k + 1 : Nat)))], d2, e)) ?_ rfl, d2, rfl, q2, f.trans q3⟩
      show sX10_foretold_73 d' e _ _ _ _ _ = _
      unfold sX10_foretold_73
      simp (disch := omega) only [nI_iI, lN_lJ, iI_0, lJ_0, iI_add, iI_sub, iI_mul, iI_neg, lJ_add, lJ_sub, lJ_mul, lJ_neg, i_l, l_i, iI_cl, iI_inb, iI_eqT, iI_eqF, iI_ltT, iI_ltF, iI_leT, iI_leF, lJ_eqT, lJ_eqF, lJ_cG, lJ_cE, lJ_cL, lJ_cF, lJ_cGE, lJ_cLE, lJ_cNL, lJ_cNG, Int.cast_ofNat_Int, c_0, c_1, Int.natCast_add, Int.add_zero, cond_true, cond_false, Bool.and_self, Bool.and_true, Bool.true_and, Option.bind_some, decide_true, uI_hit, uI_miss, uI_o, uA_o, uA_s, ↓reduceIte, eq_self, true_or, or_true, or_false, false_or, true_and, and_true, false_and, and_false, or_self, and_self, not_false_eq_true, not_true_eq_false, tn_i, q1]
    · rw [if_neg h9]
      have w9 := ok.1.2.2.1
      have q1 := cq_pass_n (d := d') (e := e) (x1 := iI 0) c (by omega)
      refine ⟨_, a_run_step (p2 := (73, [some (.ref 0), some (.int (iI n)), some (.int x2), some (.int x3), some (.ref 2), some (.int x5), some (.int (iI (k + 1 : Nat)))], d', e)) ?_ rfl, d', rfl, c, f⟩
      show sX10_foretold_73 d' e _ _ _ _ _ = _
      unfold sX10_foretold_73
      simp (disch := omega) only [nI_iI, lN_lJ, iI_0, lJ_0, iI_add, iI_sub, iI_mul, iI_neg, lJ_add, lJ_sub, lJ_mul, lJ_neg, i_l, l_i, iI_cl, iI_inb, iI_eqT, iI_eqF, iI_ltT, iI_ltF, iI_leT, iI_leF, lJ_eqT, lJ_eqF, lJ_cG, lJ_cE, lJ_cL, lJ_cF, lJ_cGE, lJ_cLE, lJ_cNL, lJ_cNG, Int.cast_ofNat_Int, c_0, c_1, Int.natCast_add, Int.add_zero, cond_true, cond_false, Bool.and_self, Bool.and_true, Bool.true_and, Option.bind_some, decide_true, uI_hit, uI_miss, uI_o, uA_o, uA_s, ↓reduceIte, eq_self, true_or, or_true, or_false, false_or, true_and, and_true, false_and, and_false, or_self, and_self, not_false_eq_true, not_true_eq_false, tn_i, q1]
theorem cq_foretold {d : aI} {e : aJ} {S : aS} (hS : sOK S) (hC : CI d S) {n : Nat} (hn : 1 ≤ n ∧ n ≤ 60) {w : Int} {x : Nat} (hw : (w = 0 ∧ (x : Int) < S.1 1) ∨ (w = 1 ∧ (x : Int) < S.1 0)) : ∃ d', FX10_foretold d e (iI n) (iI w) (iI x) = some (iI (if w = 0 then fpS true (lawT S) (lawG S) S.1 n (12 + 3 * x) else fpS true (lawT S) (lawG S) S.1 n (30 + 2 * x)), d', e) ∧ CI d' S ∧ Fc d d' := by
  have hW := hS.1.1
  have w0 := hW.1
  have w1 := hW.2.1
  have w11 := hW.2.2.2.2.1
  obtain ⟨d1, a1, a2, a3, a4⟩ := cq_write (e := e) (o1 := 107) (r := 0) hC.cn hW (by omega) sz107 (by omega)
  have c1 : CI d1 S := hC.ofN hS (hC.cn.of (fun k a b => a3 k (by omega))) (fun k a b => a3 k (by omega))
  have st : ∃ x5, stX10_foretold (0, [some (.ref 0), some (.int (iI n)), some (.int (iI w)), some (.int (iI x)), none, none, none], d, e) = some (73, [some (.ref 0), some (.int (iI n)), some (.int (iI w)), some (.int (iI x)), some (.ref 2), some (.int x5), some (.int (iI (0 : Nat)))], d1, e) := by
    refine ⟨iI 1, ?_⟩
    show sX10_foretold_0 d e _ _ _ = _
    unfold sX10_foretold_0
    rcases hw with ⟨rfl, hx⟩ | ⟨rfl, hx⟩
    · simp (disch := omega) only [nI_iI, lN_lJ, iI_0, lJ_0, iI_add, iI_sub, iI_mul, iI_neg, lJ_add, lJ_sub, lJ_mul, lJ_neg, i_l, l_i, iI_cl, iI_inb, iI_eqT, iI_eqF, iI_ltT, iI_ltF, iI_leT, iI_leF, lJ_eqT, lJ_eqF, lJ_cG, lJ_cE, lJ_cL, lJ_cF, lJ_cGE, lJ_cLE, lJ_cNL, lJ_cNG, Int.cast_ofNat_Int, c_0, c_1, Int.natCast_add, Int.add_zero, cond_true, cond_false, Bool.and_self, Bool.and_true, Bool.true_and, Option.bind_some, decide_true, uI_hit, uI_miss, uI_o, uA_o, uA_s, ↓reduceIte, eq_self, true_or, or_true, or_false, false_or, true_and, and_true, false_and, and_false, or_self, and_self, not_false_eq_true, not_true_eq_false, tn_i, cq_isCat_y hC.cn hW, cq_in_y, a1, decide_eq_true]
    · simp (disch := omega) only [nI_iI, lN_lJ, iI_0, lJ_0, iI_add, iI_sub, iI_mul, iI_neg, lJ_add, lJ_sub, lJ_mul, lJ_neg, i_l, l_i, iI_cl, iI_inb, iI_eqT, iI_eqF, iI_ltT, iI_ltF, iI_leT, iI_leF, lJ_eqT, lJ_eqF, lJ_cG, lJ_cE, lJ_cL, lJ_cF, lJ_cGE, lJ_cLE, lJ_cNL, lJ_cNG, Int.cast_ofNat_Int, c_0, c_1, Int.natCast_add, Int.add_zero, cond_true, cond_false, Bool.and_self, Bool.and_true, Bool.true_and, Option.bind_some, decide_true, uI_hit, uI_miss, uI_o, uA_o, uA_s, ↓reduceIte, eq_self, true_or, or_true, or_false, false_or, true_and, and_true, false_and, and_false, or_self, and_self, not_false_eq_true, not_true_eq_false, tn_i, cq_isHouse_y hC.cn hW, cq_in_y, a1, decide_eq_true]
  obtain ⟨x5, st⟩ := st
  obtain ⟨d2, t1, t2, t3⟩ := cq_foresee (e := e) hS c1 hn.2 (x2 := iI w) (x3 := iI x) (x5 := x5)
  have ok := fpS_ok (wr := true) (y0 := lawT S) (y1 := lawG S) hW n
  unfold FX10_foretold
  rw [a_run_step st rfl, t1]
  generalize hF : fpS true (lawT S) (lawG S) S.1 n = F at t2 ok
  have o1 := ok.2 1 (by omega) (by omega) (by omega) (by omega)
  have o0 := ok.2 0 (by omega) (by omega) (by omega) (by omega)
  have rw2 : RW d2 107 0 S.1 := a2.of (fun j _ _ => by rw [t3 107 (by omega)]) (by omega) (by omega)
  obtain ⟨d3, r1, r2, r3⟩ := cq_restore (e := e) (A' := S.1) (o1 := 107) (r := 0) t2 ok.1 rw2 hW (by omega) (by omega) sz107 (by omega) (fun j hj => (ok.2 j (by omega) (by omega) (by omega) (by omega)).symm) ⟨rfl, rfl, rfl⟩ (fun c _ _ => ⟨rfl, rfl, rfl⟩) (fun c a b => by omega) (fun h _ _ => ⟨rfl, rfl⟩) (fun h a b => by omega) (fun k _ _ => rfl)
  have k7 : (x : Int) < F 1 → d2 7 x = iI (F (12 + 3 * x)) := t2.2.2.2.2.2.2.2.2.2.1 x
  have k4 : (x : Int) < F 0 → d2 4 x = iI (F (30 + 2 * x)) := t2.2.2.2.2.2.2.1 x
  have g : ∀ k, (k < 2 ∨ (10 < k ∧ k ≠ 93 ∧ k ≠ 94 ∧ k ≠ 107)) → d3 k = d k := fun k hk => (r3 k (by omega)).trans ((t3 k (by omega)).trans (a3 k (by omega)))
  refine ⟨d3, ?_, hC.ofN hS r2 (fun k a b => g k (by omega)), fun k a => g k (by omega)⟩
  rw [a_run_step (st := stX10_foretold) (p2 := (100000, [some (.int (iI (if w = 0 then F (12 + 3 * x) else F (30 + 2 * x))))], d3, e)) ?_ rfl, a_run_end]
  · rfl
  · show sX10_foretold_73 d2 e _ _ _ _ _ = _
    rcases hw with ⟨rfl, hx⟩ | ⟨rfl, hx⟩
    · have k := k7 (by omega)
      unfold sX10_foretold_73
      simp (disch := omega) only [nI_iI, lN_lJ, iI_0, lJ_0, iI_add, iI_sub, iI_mul, iI_neg, lJ_add, lJ_sub, lJ_mul, lJ_neg, i_l, l_i, iI_cl, iI_inb, iI_eqT, iI_eqF, iI_ltT, iI_ltF, iI_leT, iI_leF, lJ_eqT, lJ_eqF, lJ_cG, lJ_cE, lJ_cL, lJ_cF, lJ_cGE, lJ_cLE, lJ_cNL, lJ_cNG, Int.cast_ofNat_Int, c_0, c_1, Int.natCast_add, Int.add_zero, cond_true, cond_false, Bool.and_self, Bool.and_true, Bool.true_and, Option.bind_some, decide_true, uI_hit, uI_miss, uI_o, uA_o, uA_s, ↓reduceIte, eq_self, true_or, or_true, or_false, false_or, true_and, and_true, false_and, and_false, or_self, and_self, not_false_eq_true, not_true_eq_false, tn_i, Int.toNat_natCast, k, r1]
    · have k := k4 (by omega)
      rw [if_neg (show ¬(1 : Int) = 0 by omega)]
      unfold sX10_foretold_73
      simp (disch := omega) only [nI_iI, lN_lJ, iI_0, lJ_0, iI_add, iI_sub, iI_mul, iI_neg, lJ_add, lJ_sub, lJ_mul, lJ_neg, i_l, l_i, iI_cl, iI_inb, iI_eqT, iI_eqF, iI_ltT, iI_ltF, iI_leT, iI_leF, lJ_eqT, lJ_eqF, lJ_cG, lJ_cE, lJ_cL, lJ_cF, lJ_cGE, lJ_cLE, lJ_cNL, lJ_cNG, Int.cast_ofNat_Int, c_0, c_1, Int.natCast_add, Int.add_zero, cond_true, cond_false, Bool.and_self, Bool.and_true, Bool.true_and, Option.bind_some, decide_true, uI_hit, uI_miss, uI_o, uA_o, uA_s, ↓reduceIte, eq_self, true_or, or_true, or_false, false_or, true_and, and_true, false_and, and_false, or_self, and_self, not_false_eq_true, not_true_eq_false, tn_i, Int.toNat_natCast, k, r1]
-- reference
theorem mq_foretold {d : aI} {e : aJ} {S : aS} (hS : sOK S) (hM : MI d S) {n : Nat} (hn : 1 ≤ n ∧ n ≤ 60) {w : Int} {x : Nat} (hw : (w = 0 ∧ (x : Int) < S.1 1) ∨ (w = 1 ∧ (x : Int) < S.1 0)) : ∃ d' e', FX11_foretold d e (iI n) (iI w) (iI x) = some (iI (if w = 0 then fpS false (lawT S) (lawG S) S.1 n (12 + 3 * x) else fpS false (lawT S) (lawG S) S.1 n (30 + 2 * x)), d', e') ∧ MI d' S ∧ Fm d d' := by
  have hW := hS.1.1
  have w0 := hW.1
  have w1 := hW.2.1
  have hA := hM.1
  -- the cells go aside
  have st : stX11_foretold (0, [some (.ref 108), some (.int (iI n)), some (.int (iI w)), some (.int (iI x)), none, none], d, e) = some (48, [some (.ref 108), some (.int (iI n)), some (.int (iI w)), some (.int (iI x)), some (.int (iI (9 + (0 : Nat)))), none], d, e) := by
    show sX11_foretold_0 d e _ _ _ = _
    unfold sX11_foretold_0
    rcases hw with ⟨rfl, hx⟩ | ⟨rfl, hx⟩
    · simp (disch := omega) only [nI_iI, lN_lJ, iI_0, lJ_0, iI_add, iI_sub, iI_mul, iI_neg, lJ_add, lJ_sub, lJ_mul, lJ_neg, i_l, l_i, iI_cl, iI_inb, iI_eqT, iI_eqF, iI_ltT, iI_ltF, iI_leT, iI_leF, lJ_eqT, lJ_eqF, lJ_cG, lJ_cE, lJ_cL, lJ_cF, lJ_cGE, lJ_cLE, lJ_cNL, lJ_cNG, Int.cast_ofNat_Int, c_0, c_1, Int.natCast_add, Int.add_zero, cond_true, cond_false, Bool.and_self, Bool.and_true, Bool.true_and, Option.bind_some, decide_true, uI_hit, uI_miss, uI_o, uA_o, uA_s, ↓reduceIte, eq_self, true_or, or_true, or_false, false_or, true_and, and_true, false_and, and_false, or_self, and_self, not_false_eq_true, not_true_eq_false, tn_i, mq_isCat_y hA hW, mq_in_y, decide_eq_true]
    · simp (disch := omega) only [nI_iI, lN_lJ, iI_0, lJ_0, iI_add, iI_sub, iI_mul, iI_neg, lJ_add, lJ_sub, lJ_mul, lJ_neg, i_l, l_i, iI_cl, iI_inb, iI_eqT, iI_eqF, iI_ltT, iI_ltF, iI_leT, iI_leF, lJ_eqT, lJ_eqF, lJ_cG, lJ_cE, lJ_cL, lJ_cF, lJ_cGE, lJ_cLE, lJ_cNL, lJ_cNG, Int.cast_ofNat_Int, c_0, c_1, Int.natCast_add, Int.add_zero, cond_true, cond_false, Bool.and_self, Bool.and_true, Bool.true_and, Option.bind_some, decide_true, uI_hit, uI_miss, uI_o, uA_o, uA_s, ↓reduceIte, eq_self, true_or, or_true, or_false, false_or, true_and, and_true, false_and, and_false, or_self, and_self, not_false_eq_true, not_true_eq_false, tn_i, mq_isHouse_y hA hW, mq_in_y, decide_eq_true]
  have cp1 := run_invR (st := stX11_foretold) (fun k p => ∃ d', p = (48, [some (.ref 108), some (.int (iI n)), some (.int (iI w)), some (.int (iI x)), some (.int (iI (9 + (k : Nat)))), none], d', e) ∧ (∀ j : Nat, 9 ≤ j → j < 9 + k → d' 117 j = iI (S.1 j)) ∧ (∀ o, o ≠ 117 → d' o = d o)) 33 (p0 := (48, [some (.ref 108), some (.int (iI n)), some (.int (iI w)), some (.int (iI x)), some (.int (iI (9 + (0 : Nat)))), none], d, e)) ⟨d, rfl, fun j a b => by omega, fun _ _ => rfl⟩ ?_
  rotate_left
  · rintro k p hk ⟨d', rfl, c, f⟩
    have r : d' 109 (9 + k) = iI (S.1 ((9 + k : Nat) : Int)) := by rw [f 109 (by omega)]; exact hA (9 + k) (by omega)
    have tn : ((9 : Int) + (k : Int)).toNat = 9 + k := by omega
    refine ⟨_, a_run_step (p2 := (48, [some (.ref 108), some (.int (iI n)), some (.int (iI w)), some (.int (iI x)), some (.int (iI (9 + (k + 1 : Nat)))), none], uI d' 117 (9 + k) (iI (S.1 ((9 + k : Nat) : Int))), e)) ?_ rfl, _, rfl, fun j a b => ?_, fun o ho => by rw [uI_o ho]; exact f o ho⟩
    · show sX11_foretold_48 d' e _ _ _ _ _ = _
      unfold sX11_foretold_48
      simp (disch := omega) only [nI_iI, lN_lJ, iI_0, lJ_0, iI_add, iI_sub, iI_mul, iI_neg, lJ_add, lJ_sub, lJ_mul, lJ_neg, i_l, l_i, iI_cl, iI_inb, iI_eqT, iI_eqF, iI_ltT, iI_ltF, iI_leT, iI_leF, lJ_eqT, lJ_eqF, lJ_cG, lJ_cE, lJ_cL, lJ_cF, lJ_cGE, lJ_cLE, lJ_cNL, lJ_cNG, Int.cast_ofNat_Int, c_0, c_1, Int.natCast_add, Int.add_zero, cond_true, cond_false, Bool.and_self, Bool.and_true, Bool.true_and, Option.bind_some, decide_true, uI_hit, uI_miss, uI_o, uA_o, uA_s, ↓reduceIte, eq_self, true_or, or_true, or_false, false_or, true_and, and_true, false_and, and_false, or_self, and_self, not_false_eq_true, not_true_eq_false, tn_i, tn, r, Int.add_assoc]
    · by_cases q : j = 9 + k
      · rw [uI_hit q, q]
      · rw [uI_miss q]; exact c j a (by omega)
  obtain ⟨p1, ⟨d1, rfl, c1, f1⟩, t1⟩ := cp1
  have st2 : stX11_foretold (48, [some (.ref 108), some (.int (iI n)), some (.int (iI w)), some (.int (iI x)), some (.int (iI (9 + (33 : Nat)))), none], d1, e) = some (83, [some (.ref 108), some (.int (iI n)), some (.int (iI w)), some (.int (iI x)), some (.int (iI (0 : Nat))), none], uI d1 108 23 (iI 0), e) := by
    show sX11_foretold_48 d1 e _ _ _ _ _ = _
    unfold sX11_foretold_48
    simp (disch := omega) only [nI_iI, lN_lJ, iI_0, lJ_0, iI_add, iI_sub, iI_mul, iI_neg, lJ_add, lJ_sub, lJ_mul, lJ_neg, i_l, l_i, iI_cl, iI_inb, iI_eqT, iI_eqF, iI_ltT, iI_ltF, iI_leT, iI_leF, lJ_eqT, lJ_eqF, lJ_cG, lJ_cE, lJ_cL, lJ_cF, lJ_cGE, lJ_cLE, lJ_cNL, lJ_cNG, Int.cast_ofNat_Int, c_0, c_1, Int.natCast_add, Int.add_zero, cond_true, cond_false, Bool.and_self, Bool.and_true, Bool.true_and, Option.bind_some, decide_true, uI_hit, uI_miss, uI_o, uA_o, uA_s, ↓reduceIte, eq_self, true_or, or_true, or_false, false_or, true_and, and_true, false_and, and_false, or_self, and_self, not_false_eq_true, not_true_eq_false, tn_i, iI_one, decide_eq_true]
  -- the hours
  have hA2 : MA (uI d1 108 23 (iI 0)) 109 S.1 := hA.of (by rw [uI_o (by omega), f1 109 (by omega)])
  have hX2 : MX (uI d1 108 23 (iI 0)) (S.1 3) (lawT S) (lawG S) := (hM.mx hS).of (by rw [uI_o (by omega), f1 111 (by omega)])
  have i2 : (uI d1 108 23 (iI 0)) 108 23 = iI (tv false) := uI_hit rfl
  have fo : ∀ o, o ≠ 117 → o ≠ 108 → (uI d1 108 23 (iI 0)) o = d o := fun o a b => by rw [uI_o b, f1 o a]
  have fc : ∀ j, j ≠ 23 → (uI d1 108 23 (iI 0)) 108 j = d 108 j := fun j a => by rw [uI_miss a, f1 108 (by omega)]
  have c2 : ∀ j : Nat, 9 ≤ j → j < 42 → (uI d1 108 23 (iI 0)) 117 j = iI (S.1 j) := fun j a b => by rw [uI_o (by omega)]; exact c1 j a (by omega)
  generalize uI d1 108 23 (iI 0) = d2 at st2 hA2 hX2 i2 fo fc c2
  have ps := run_invR (st := stX11_foretold) (fun k p => ∃ d' e', p = (83, [some (.ref 108), some (.int (iI n)), some (.int (iI w)), some (.int (iI x)), some (.int (iI (k : Nat))), none], d', e') ∧ MA d' 109 (fpS false (lawT S) (lawG S) S.1 k) ∧ Kr d2 d') n (p0 := (83, [some (.ref 108), some (.int (iI n)), some (.int (iI w)), some (.int (iI x)), some (.int (iI (0 : Nat))), none], d2, e)) ⟨d2, e, rfl, hA2, Kr.refl d2⟩ ?_
  rotate_left
  · rintro k p hk ⟨d', e', rfl, c, f⟩
    have ok := fpS_ok (wr := false) (y0 := lawT S) (y1 := lawG S) hW k
    have r9 : d' 109 9 = iI (fpS false (lawT S) (lawG S) S.1 k 9) := c.cell (j := 9) (by omega)
    have w9 := ok.1.2.2.1
    rw [fpS_s]
    by_cases h9 : fpS false (lawT S) (lawG S) S.1 k 9 < 9999
    · rw [if_pos h9]
      obtain ⟨q, hq, _⟩ := iI_ex (d' 108 24)
      obtain ⟨d3, e3, q1, q2, q3, _⟩ := mq_pass (e := e') (wr := false) (q := q) c ok.1 (by rw [ok.2 3 (by omega) (by omega) (by omega) (by omega)]; exact hX2.of (f.1 111 (by omega) (by omega) (by omega))) (by rw [f.2 23 (by omega)]; exact i2) hq
      refine ⟨_, a_run_step (p2 := (83, [some (.ref 108), some (.int (iI n)), some (.int (iI w)), some (.int (iI x)), some (.int (iI (k + 1 : Nat))), none], d3, e3)) ?_ rfl, d3, e3, rfl, q2, f.trans q3⟩
      show sX11_foretold_83 d' e' _ _ _ _ _ = _
      unfold sX11_foretold_83
      simp (disch := omega) only [nI_iI, lN_lJ, iI_0, lJ_0, iI_add, iI_sub, iI_mul, iI_neg, lJ_add, lJ_sub, lJ_mul, lJ_neg, i_l, l_i, iI_cl, iI_inb, iI_eqT, iI_eqF, iI_ltT, iI_ltF, iI_leT, iI_leF, lJ_eqT, lJ_eqF, lJ_cG, lJ_cE, lJ_cL, lJ_cF, lJ_cGE, lJ_cLE, lJ_cNL, lJ_cNG, Int.cast_ofNat_Int, c_0, c_1, Int.natCast_add, Int.add_zero, cond_true, cond_false, Bool.and_self, Bool.and_true, Bool.true_and, Option.bind_some, decide_true, uI_hit, uI_miss, uI_o, uA_o, uA_s, ↓reduceIte, eq_self, true_or, or_true, or_false, false_or, true_and, and_true, false_and, and_false, or_self, and_self, not_false_eq_true, not_true_eq_false, tn_i, r9, q1]
    · rw [if_neg h9]
      refine ⟨_, a_run_step (p2 := (83, [some (.ref 108), some (.int (iI n)), some (.int (iI w)), some (.int (iI x)), some (.int (iI (k + 1 : Nat))), none], d', e')) ?_ rfl, d', e', rfl, c, f⟩
      show sX11_foretold_83 d' e' _ _ _ _ _ = _
      unfold sX11_foretold_83
      simp (disch := omega) only [nI_iI, lN_lJ, iI_0, lJ_0, iI_add, iI_sub, iI_mul, iI_neg, lJ_add, lJ_sub, lJ_mul, lJ_neg, i_l, l_i, iI_cl, iI_inb, iI_eqT, iI_eqF, iI_ltT, iI_ltF, iI_leT, iI_leF, lJ_eqT, lJ_eqF, lJ_cG, lJ_cE, lJ_cL, lJ_cF, lJ_cGE, lJ_cLE, lJ_cNL, lJ_cNG, Int.cast_ofNat_Int, c_0, c_1, Int.natCast_add, Int.add_zero, cond_true, cond_false, Bool.and_self, Bool.and_true, Bool.true_and, Option.bind_some, decide_true, uI_hit, uI_miss, uI_o, uA_o, uA_s, ↓reduceIte, eq_self, true_or, or_true, or_false, false_or, true_and, and_true, false_and, and_false, or_self, and_self, not_false_eq_true, not_true_eq_false, tn_i, r9]
  obtain ⟨p2, ⟨d3, e3, rfl, c3, f3⟩, t2⟩ := ps
  have ok := fpS_ok (wr := false) (y0 := lawT S) (y1 := lawG S) hW n
  have okf := fun j hj => fpS_f (y0 := lawT S) (y1 := lawG S) hW n (j := j) hj
  generalize hF : fpS false (lawT S) (lawG S) S.1 n = F at c3 ok okf
  have o1 := ok.2 1 (by omega) (by omega) (by omega) (by omega)
  have o0 := ok.2 0 (by omega) (by omega) (by omega) (by omega)
  have ans : ∃ v, v = (if w = 0 then F (12 + 3 * x) else F (30 + 2 * x)) := ⟨_, rfl⟩
  obtain ⟨v, hv⟩ := ans
  rw [← hv]
  have st3 : stX11_foretold (83, [some (.ref 108), some (.int (iI n)), some (.int (iI w)), some (.int (iI x)), some (.int (iI (n : Nat))), none], d3, e3) = some (136, [some (.ref 108), some (.int (iI n)), some (.int (iI w)), some (.int (iI x)), some (.int (iI v)), some (.int (iI (9 + (0 : Nat))))], d3, e3) := by
    show sX11_foretold_83 d3 e3 _ _ _ _ _ = _
    rw [hv]
    rcases hw with ⟨rfl, hx⟩ | ⟨rfl, hx⟩
    · unfold sX11_foretold_83
      simp (disch := omega) only [nI_iI, lN_lJ, iI_0, lJ_0, iI_add, iI_sub, iI_mul, iI_neg, lJ_add, lJ_sub, lJ_mul, lJ_neg, i_l, l_i, iI_cl, iI_inb, iI_eqT, iI_eqF, iI_ltT, iI_ltF, iI_leT, iI_leF, lJ_eqT, lJ_eqF, lJ_cG, lJ_cE, lJ_cL, lJ_cF, lJ_cGE, lJ_cLE, lJ_cNL, lJ_cNG, Int.cast_ofNat_Int, c_0, c_1, Int.natCast_add, Int.add_zero, cond_true, cond_false, Bool.and_self, Bool.and_true, Bool.true_and, Option.bind_some, decide_true, uI_hit, uI_miss, uI_o, uA_o, uA_s, ↓reduceIte, eq_self, true_or, or_true, or_false, false_or, true_and, and_true, false_and, and_false, or_self, and_self, not_false_eq_true, not_true_eq_false, tn_i, mq_placeOf c3 ok.1]
    · rw [if_neg (show ¬(1 : Int) = 0 by omega)]
      unfold sX11_foretold_83
      simp (disch := omega) only [nI_iI, lN_lJ, iI_0, lJ_0, iI_add, iI_sub, iI_mul, iI_neg, lJ_add, lJ_sub, lJ_mul, lJ_neg, i_l, l_i, iI_cl, iI_inb, iI_eqT, iI_eqF, iI_ltT, iI_ltF, iI_leT, iI_leF, lJ_eqT, lJ_eqF, lJ_cG, lJ_cE, lJ_cL, lJ_cF, lJ_cGE, lJ_cLE, lJ_cNL, lJ_cNG, Int.cast_ofNat_Int, c_0, c_1, Int.natCast_add, Int.add_zero, cond_true, cond_false, Bool.and_self, Bool.and_true, Bool.true_and, Option.bind_some, decide_true, uI_hit, uI_miss, uI_o, uA_o, uA_s, ↓reduceIte, eq_self, true_or, or_true, or_false, false_or, true_and, and_true, false_and, and_false, or_self, and_self, not_false_eq_true, not_true_eq_false, tn_i, mq_getOf c3]
  -- the cells come back
  have c4 : ∀ j : Nat, 9 ≤ j → j < 42 → d3 117 j = iI (S.1 j) := fun j a b => by rw [f3.1 117 (by omega) (by omega) (by omega)]; exact c2 j a b
  have cp2 := run_invR (st := stX11_foretold) (fun k p => ∃ d', p = (136, [some (.ref 108), some (.int (iI n)), some (.int (iI w)), some (.int (iI x)), some (.int (iI v)), some (.int (iI (9 + (k : Nat))))], d', e3) ∧ (∀ j : Nat, 9 ≤ j → j < 9 + k → d' 109 j = iI (S.1 j)) ∧ (∀ j : Nat, (j < 9 ∨ 42 ≤ j) → d' 109 j = d3 109 j) ∧ (∀ o, o ≠ 109 → d' o = d3 o)) 33 (p0 := (136, [some (.ref 108), some (.int (iI n)), some (.int (iI w)), some (.int (iI x)), some (.int (iI v)), some (.int (iI (9 + (0 : Nat))))], d3, e3)) ⟨d3, rfl, fun j a b => by omega, fun _ _ => rfl, fun _ _ => rfl⟩ ?_
  rotate_left
  · rintro k p hk ⟨d', rfl, c, g, f⟩
    have r : d' 117 (9 + k) = iI (S.1 ((9 + k : Nat) : Int)) := by rw [f 117 (by omega)]; exact c4 (9 + k) (by omega) (by omega)
    have tn : ((9 : Int) + (k : Int)).toNat = 9 + k := by omega
    refine ⟨_, a_run_step (p2 := (136, [some (.ref 108), some (.int (iI n)), some (.int (iI w)), some (.int (iI x)), some (.int (iI v)), some (.int (iI (9 + (k + 1 : Nat))))], uI d' 109 (9 + k) (iI (S.1 ((9 + k : Nat) : Int))), e3)) ?_ rfl, _, rfl, fun j a b => ?_, fun j hj => by rw [uI_miss (by omega)]; exact g j hj, fun o ho => by rw [uI_o ho]; exact f o ho⟩
    · show sX11_foretold_136 d' e3 _ _ _ _ _ = _
      unfold sX11_foretold_136
      simp (disch := omega) only [nI_iI, lN_lJ, iI_0, lJ_0, iI_add, iI_sub, iI_mul, iI_neg, lJ_add, lJ_sub, lJ_mul, lJ_neg, i_l, l_i, iI_cl, iI_inb, iI_eqT, iI_eqF, iI_ltT, iI_ltF, iI_leT, iI_leF, lJ_eqT, lJ_eqF, lJ_cG, lJ_cE, lJ_cL, lJ_cF, lJ_cGE, lJ_cLE, lJ_cNL, lJ_cNG, Int.cast_ofNat_Int, c_0, c_1, Int.natCast_add, Int.add_zero, cond_true, cond_false, Bool.and_self, Bool.and_true, Bool.true_and, Option.bind_some, decide_true, uI_hit, uI_miss, uI_o, uA_o, uA_s, ↓reduceIte, eq_self, true_or, or_true, or_false, false_or, true_and, and_true, false_and, and_false, or_self, and_self, not_false_eq_true, not_true_eq_false, tn_i, tn, r, Int.add_assoc]
    · by_cases q : j = 9 + k
      · rw [uI_hit q, q]
      · rw [uI_miss q]; exact c j a (by omega)
  obtain ⟨p3, ⟨d4, rfl, c5, g5, f5⟩, t3⟩ := cp2
  have st4 : stX11_foretold (136, [some (.ref 108), some (.int (iI n)), some (.int (iI w)), some (.int (iI x)), some (.int (iI v)), some (.int (iI (9 + (33 : Nat))))], d4, e3) = some (100000, [some (.int (iI v))], uI d4 108 23 (iI 1), e3) := by
    show sX11_foretold_136 d4 e3 _ _ _ _ _ = _
    unfold sX11_foretold_136
    simp (disch := omega) only [nI_iI, lN_lJ, iI_0, lJ_0, iI_add, iI_sub, iI_mul, iI_neg, lJ_add, lJ_sub, lJ_mul, lJ_neg, i_l, l_i, iI_cl, iI_inb, iI_eqT, iI_eqF, iI_ltT, iI_ltF, iI_leT, iI_leF, lJ_eqT, lJ_eqF, lJ_cG, lJ_cE, lJ_cL, lJ_cF, lJ_cGE, lJ_cLE, lJ_cNL, lJ_cNG, Int.cast_ofNat_Int, c_0, c_1, Int.natCast_add, Int.add_zero, cond_true, cond_false, Bool.and_self, Bool.and_true, Bool.true_and, Option.bind_some, decide_true, uI_hit, uI_miss, uI_o, uA_o, uA_s, ↓reduceIte, eq_self, true_or, or_true, or_false, false_or, true_and, and_true, false_and, and_false, or_self, and_self, not_false_eq_true, not_true_eq_false, tn_i, iI_one, decide_eq_true]
  have all : MA d4 109 S.1 := by
    intro j hj
    by_cases q : 9 ≤ j ∧ j < 42
    · exact c5 j q.1 (by omega)
    · rw [g5 j (by omega)]
      have m := c3 j hj
      rw [m]
      by_cases q2 : j < 1936
      · rw [ok.2 j (by omega) (by omega) (by omega) (by omega)]
      · rw [okf j (by omega)]
  have back : ∀ o, o ≠ 109 → o ≠ 108 → o < 113 → d4 o = d o := fun o a b c => (f5 o a).trans ((f3.1 o (by omega) b a).trans (fo o (by omega) b))
  have back2 : ∀ j, j = 4 ∨ j = 5 ∨ j = 6 → d4 108 j = d 108 j := fun j a => by rw [f5 108 (by omega), f3.2 j (by omega), fc j (by omega)]
  obtain ⟨h1, h2, h3, h4, h5, h6, h7, h8⟩ := hM
  refine ⟨uI d4 108 23 (iI 1), e3, ?_, ⟨all.of (uI_o (by omega)), h2.of (by rw [uI_o (by omega)]; exact back 110 (by omega) (by omega) (by omega)), fun t ht => (h3 t ht).of (by rw [uI_o (by omega)]; exact back 111 (by omega) (by omega) (by omega)), ?_, ?_, ?_, ?_, uI_hit rfl⟩, fun k a => by rw [uI_o (by omega)]; exact back k (by omega) (by omega) (by omega)⟩
  · unfold FX11_foretold
    rw [a_run_step st rfl, t1, a_run_step st2 rfl, t2, a_run_step st3 rfl, t3, a_run_step st4 rfl, a_run_end]
    rfl
  · rw [uI_miss (by omega), back2 4 (by omega)]; exact h4
  · rw [uI_miss (by omega), back2 5 (by omega)]; exact h5
  · rw [uI_miss (by omega), back2 6 (by omega)]; exact h6
  · rw [uI_o (by omega), back 112 (by omega) (by omega) (by omega)]; exact h7
theorem o_foretold (x y z : Int32) : Op (fun d e => FX10_foretold d e x y z) (fun d e => FX11_foretold d e x y z) := by
  obtain ⟨n, rfl, n1, n2⟩ := iI_ex x
  obtain ⟨w, rfl, v1, v2⟩ := iI_ex y
  obtain ⟨t, rfl, t1, t2⟩ := iI_ex z
  by_cases h : (1 ≤ n ∧ n ≤ 60) ∧ (w = 0 ∨ w = 1)
  · intro S hS
    have hW := hS.1.1
    have w0 := hW.1
    have w1 := hW.2.1
    obtain ⟨N, rfl⟩ := Int.eq_ofNat_of_zero_le (show 0 ≤ n by omega)
    by_cases g : (w = 0 ∧ 0 ≤ t ∧ t < S.1 1) ∨ (w = 1 ∧ 0 ≤ t ∧ t < S.1 0)
    · obtain ⟨T, rfl⟩ := Int.eq_ofNat_of_zero_le (show 0 ≤ t by omega)
      have hw : (w = 0 ∧ (T : Int) < S.1 1) ∨ (w = 1 ∧ (T : Int) < S.1 0) := by omega
      have ae := fpS_ae (wr := true) (wr2 := false) (y0 := lawT S) (y1 := lawG S) hW N
      have eq : (if w = 0 then fpS false (lawT S) (lawG S) S.1 N (12 + 3 * T) else fpS false (lawT S) (lawG S) S.1 N (30 + 2 * T)) = (if w = 0 then fpS true (lawT S) (lawG S) S.1 N (12 + 3 * T) else fpS true (lawT S) (lawG S) S.1 N (30 + 2 * T)) := by
        split
        · exact (ae _ (by omega) (by omega)).symm
        · exact (ae _ (by omega) (by omega)).symm
      refine ⟨S, iI (if w = 0 then fpS true (lawT S) (lawG S) S.1 N (12 + 3 * T) else fpS true (lawT S) (lawG S) S.1 N (30 + 2 * T)), hS, fun d e hC => ?_, fun d e hM => ?_⟩
      · obtain ⟨d', q1, q2, q3⟩ := cq_foretold (e := e) hS hC (n := N) (by omega) hw
        exact ⟨d', e, q1, q2, q3⟩
      · obtain ⟨d', e', q1, q2, q3⟩ := mq_foretold (e := e) hS hM (n := N) (by omega) hw
        rw [eq] at q1
        exact ⟨d', e', q1, q2, q3⟩
    · refine ⟨S, iI (-1), hS, fun d e hC => ⟨d, e, ?_, hC, Fc.refl d⟩, fun d e hM => ⟨d, e, ?_, hM, Fm.refl d⟩⟩
      · have st : stX10_foretold (0, [some (.ref 0), some (.int (iI N)), some (.int (iI w)), some (.int (iI t)), none, none, none], d, e) = some (100000, [some (.int (iI (-1)))], d, e) := by
          show sX10_foretold_0 d e _ _ _ = _
          unfold sX10_foretold_0
          rcases h.2 with rfl | rfl
          · simp (disch := omega) only [nI_iI, lN_lJ, iI_0, lJ_0, iI_add, iI_sub, iI_mul, iI_neg, lJ_add, lJ_sub, lJ_mul, lJ_neg, i_l, l_i, iI_cl, iI_inb, iI_eqT, iI_eqF, iI_ltT, iI_ltF, iI_leT, iI_leF, lJ_eqT, lJ_eqF, lJ_cG, lJ_cE, lJ_cL, lJ_cF, lJ_cGE, lJ_cLE, lJ_cNL, lJ_cNG, Int.cast_ofNat_Int, c_0, c_1, Int.natCast_add, Int.add_zero, cond_true, cond_false, Bool.and_self, Bool.and_true, Bool.true_and, Option.bind_some, decide_true, uI_hit, uI_miss, uI_o, uA_o, uA_s, ↓reduceIte, eq_self, true_or, or_true, or_false, false_or, true_and, and_true, false_and, and_false, or_self, and_self, not_false_eq_true, not_true_eq_false, tn_i, cq_isCat_n hC.cn hW, cq_in_y, decide_eq_true]
          · simp (disch := omega) only [nI_iI, lN_lJ, iI_0, lJ_0, iI_add, iI_sub, iI_mul, iI_neg, lJ_add, lJ_sub, lJ_mul, lJ_neg, i_l, l_i, iI_cl, iI_inb, iI_eqT, iI_eqF, iI_ltT, iI_ltF, iI_leT, iI_leF, lJ_eqT, lJ_eqF, lJ_cG, lJ_cE, lJ_cL, lJ_cF, lJ_cGE, lJ_cLE, lJ_cNL, lJ_cNG, Int.cast_ofNat_Int, c_0, c_1, Int.natCast_add, Int.add_zero, cond_true, cond_false, Bool.and_self, Bool.and_true, Bool.true_and, Option.bind_some, decide_true, uI_hit, uI_miss, uI_o, uA_o, uA_s, ↓reduceIte, eq_self, true_or, or_true, or_false, false_or, true_and, and_true, false_and, and_false, or_self, and_self, not_false_eq_true, not_true_eq_false, tn_i, cq_isHouse_n hC.cn hW, cq_in_y, decide_eq_true]
        show FX10_foretold d e _ _ _ = _
        unfold FX10_foretold
        rw [a_run_step st rfl, a_run_end]
        rfl
      · have st : stX11_foretold (0, [some (.ref 108), some (.int (iI N)), some (.int (iI w)), some (.int (iI t)), none, none], d, e) = some (100000, [some (.int (iI (-1)))], d, e) := by
          show sX11_foretold_0 d e _ _ _ = _
          unfold sX11_foretold_0
          rcases h.2 with rfl | rfl
          · simp (disch := omega) only [nI_iI, lN_lJ, iI_0, lJ_0, iI_add, iI_sub, iI_mul, iI_neg, lJ_add, lJ_sub, lJ_mul, lJ_neg, i_l, l_i, iI_cl, iI_inb, iI_eqT, iI_eqF, iI_ltT, iI_ltF, iI_leT, iI_leF, lJ_eqT, lJ_eqF, lJ_cG, lJ_cE, lJ_cL, lJ_cF, lJ_cGE, lJ_cLE, lJ_cNL, lJ_cNG, Int.cast_ofNat_Int, c_0, c_1, Int.natCast_add, Int.add_zero, cond_true, cond_false, Bool.and_self, Bool.and_true, Bool.true_and, Option.bind_some, decide_true, uI_hit, uI_miss, uI_o, uA_o, uA_s, ↓reduceIte, eq_self, true_or, or_true, or_false, false_or, true_and, and_true, false_and, and_false, or_self, and_self, not_false_eq_true, not_true_eq_false, tn_i, mq_isCat_n hM.1 hW, mq_in_y, decide_eq_true]
          · simp (disch := omega) only [nI_iI, lN_lJ, iI_0, lJ_0, iI_add, iI_sub, iI_mul, iI_neg, lJ_add, lJ_sub, lJ_mul, lJ_neg, i_l, l_i, iI_cl, iI_inb, iI_eqT, iI_eqF, iI_ltT, iI_ltF, iI_leT, iI_leF, lJ_eqT, lJ_eqF, lJ_cG, lJ_cE, lJ_cL, lJ_cF, lJ_cGE, lJ_cLE, lJ_cNL, lJ_cNG, Int.cast_ofNat_Int, c_0, c_1, Int.natCast_add, Int.add_zero, cond_true, cond_false, Bool.and_self, Bool.and_true, Bool.true_and, Option.bind_some, decide_true, uI_hit, uI_miss, uI_o, uA_o, uA_s, ↓reduceIte, eq_self, true_or, or_true, or_false, false_or, true_and, and_true, false_and, and_false, or_self, and_self, not_false_eq_true, not_true_eq_false, tn_i, mq_isHouse_n hM.1 hW, mq_in_y, decide_eq_true]
        show FX11_foretold d e _ _ _ = _
        unfold FX11_foretold
        rw [a_run_step st rfl, a_run_end]
        rfl
  · refine Op.pure (fun S hS => ⟨iI (-1), fun d e hC => ?_, fun d e hM => ?_⟩)
    · have hW := hS.1.1
      have w0 := hW.1
      have w1 := hW.2.1
      have st : stX10_foretold (0, [some (.ref 0), some (.int (iI n)), some (.int (iI w)), some (.int (iI t)), none, none, none], d, e) = some (100000, [some (.int (iI (-1)))], d, e) := by
        show sX10_foretold_0 d e _ _ _ = _
        unfold sX10_foretold_0
        by_cases q0 : w = 0
        · have hn : n < 1 ∨ 60 < n := by omega
          subst q0
          by_cases c : 0 ≤ t ∧ t < S.1 1
          · simp (disch := omega) only [nI_iI, lN_lJ, iI_0, lJ_0, iI_add, iI_sub, iI_mul, iI_neg, lJ_add, lJ_sub, lJ_mul, lJ_neg, i_l, l_i, iI_cl, iI_inb, iI_eqT, iI_eqF, iI_ltT, iI_ltF, iI_leT, iI_leF, lJ_eqT, lJ_eqF, lJ_cG, lJ_cE, lJ_cL, lJ_cF, lJ_cGE, lJ_cLE, lJ_cNL, lJ_cNG, Int.cast_ofNat_Int, c_0, c_1, Int.natCast_add, Int.add_zero, cond_true, cond_false, Bool.and_self, Bool.and_true, Bool.true_and, Option.bind_some, decide_true, uI_hit, uI_miss, uI_o, uA_o, uA_s, ↓reduceIte, eq_self, true_or, or_true, or_false, false_or, true_and, and_true, false_and, and_false, or_self, and_self, not_false_eq_true, not_true_eq_false, tn_i, cq_isCat_y hC.cn hW, cq_in_n, decide_eq_true]
          · simp (disch := omega) only [nI_iI, lN_lJ, iI_0, lJ_0, iI_add, iI_sub, iI_mul, iI_neg, lJ_add, lJ_sub, lJ_mul, lJ_neg, i_l, l_i, iI_cl, iI_inb, iI_eqT, iI_eqF, iI_ltT, iI_ltF, iI_leT, iI_leF, lJ_eqT, lJ_eqF, lJ_cG, lJ_cE, lJ_cL, lJ_cF, lJ_cGE, lJ_cLE, lJ_cNL, lJ_cNG, Int.cast_ofNat_Int, c_0, c_1, Int.natCast_add, Int.add_zero, cond_true, cond_false, Bool.and_self, Bool.and_true, Bool.true_and, Option.bind_some, decide_true, uI_hit, uI_miss, uI_o, uA_o, uA_s, ↓reduceIte, eq_self, true_or, or_true, or_false, false_or, true_and, and_true, false_and, and_false, or_self, and_self, not_false_eq_true, not_true_eq_false, tn_i, cq_isCat_n hC.cn hW, cq_in_n, decide_eq_true]
        · by_cases q1 : w = 1
          · have hn : n < 1 ∨ 60 < n := by omega
            subst q1
            by_cases c : 0 ≤ t ∧ t < S.1 0
            · simp (disch := omega) only [nI_iI, lN_lJ, iI_0, lJ_0, iI_add, iI_sub, iI_mul, iI_neg, lJ_add, lJ_sub, lJ_mul, lJ_neg, i_l, l_i, iI_cl, iI_inb, iI_eqT, iI_eqF, iI_ltT, iI_ltF, iI_leT, iI_leF, lJ_eqT, lJ_eqF, lJ_cG, lJ_cE, lJ_cL, lJ_cF, lJ_cGE, lJ_cLE, lJ_cNL, lJ_cNG, Int.cast_ofNat_Int, c_0, c_1, Int.natCast_add, Int.add_zero, cond_true, cond_false, Bool.and_self, Bool.and_true, Bool.true_and, Option.bind_some, decide_true, uI_hit, uI_miss, uI_o, uA_o, uA_s, ↓reduceIte, eq_self, true_or, or_true, or_false, false_or, true_and, and_true, false_and, and_false, or_self, and_self, not_false_eq_true, not_true_eq_false, tn_i, cq_isHouse_y hC.cn hW, cq_in_n, decide_eq_true]
            · simp (disch := omega) only [nI_iI, lN_lJ, iI_0, lJ_0, iI_add, iI_sub, iI_mul, iI_neg, lJ_add, lJ_sub, lJ_mul, lJ_neg, i_l, l_i, iI_cl, iI_inb, iI_eqT, iI_eqF, iI_ltT, iI_ltF, iI_leT, iI_leF, lJ_eqT, lJ_eqF, lJ_cG, lJ_cE, lJ_cL, lJ_cF, lJ_cGE, lJ_cLE, lJ_cNL, lJ_cNG, Int.cast_ofNat_Int, c_0, c_1, Int.natCast_add, Int.add_zero, cond_true, cond_false, Bool.and_self, Bool.and_true, Bool.true_and, Option.bind_some, decide_true, uI_hit, uI_miss, uI_o, uA_o, uA_s, ↓reduceIte, eq_self, true_or, or_true, or_false, false_or, true_and, and_true, false_and, and_false, or_self, and_self, not_false_eq_true, not_true_eq_false, tn_i, cq_isHouse_n hC.cn hW, cq_in_n, decide_eq_true]
          · by_cases hn : 1 ≤ n ∧ n ≤ 60
            · simp (disch := omega) only [nI_iI, lN_lJ, iI_0, lJ_0, iI_add, iI_sub, iI_mul, iI_neg, lJ_add, lJ_sub, lJ_mul, lJ_neg, i_l, l_i, iI_cl, iI_inb, iI_eqT, iI_eqF, iI_ltT, iI_ltF, iI_leT, iI_leF, lJ_eqT, lJ_eqF, lJ_cG, lJ_cE, lJ_cL, lJ_cF, lJ_cGE, lJ_cLE, lJ_cNL, lJ_cNG, Int.cast_ofNat_Int, c_0, c_1, Int.natCast_add, Int.add_zero, cond_true, cond_false, Bool.and_self, Bool.and_true, Bool.true_and, Option.bind_some, decide_true, uI_hit, uI_miss, uI_o, uA_o, uA_s, ↓reduceIte, eq_self, true_or, or_true, or_false, false_or, true_and, and_true, false_and, and_false, or_self, and_self, not_false_eq_true, not_true_eq_false, tn_i, cq_in_y, decide_eq_true]
            · simp (disch := omega) only [nI_iI, lN_lJ, iI_0, lJ_0, iI_add, iI_sub, iI_mul, iI_neg, lJ_add, lJ_sub, lJ_mul, lJ_neg, i_l, l_i, iI_cl, iI_inb, iI_eqT, iI_eqF, iI_ltT, iI_ltF, iI_leT, iI_leF, lJ_eqT, lJ_eqF, lJ_cG, lJ_cE, lJ_cL, lJ_cF, lJ_cGE, lJ_cLE, lJ_cNL, lJ_cNG, Int.cast_ofNat_Int, c_0, c_1, Int.natCast_add, Int.add_zero, cond_true, cond_false, Bool.and_self, Bool.and_true, Bool.true_and, Option.bind_some, decide_true, uI_hit, uI_miss, uI_o, uA_o, uA_s, ↓reduceIte, eq_self, true_or, or_true, or_false, false_or, true_and, and_true, false_and, and_false, or_self, and_self, not_false_eq_true, not_true_eq_false, tn_i, cq_in_n, decide_eq_true]
      show FX10_foretold d e _ _ _ = _
      unfold FX10_foretold
      rw [a_run_step st rfl, a_run_end]
      rfl
    · have hW := hS.1.1
      have st : stX11_foretold (0, [some (.ref 108), some (.int (iI n)), some (.int (iI w)), some (.int (iI t)), none, none], d, e) = some (100000, [some (.int (iI (-1)))], d, e) := by
        show sX11_foretold_0 d e _ _ _ = _
        unfold sX11_foretold_0
        by_cases hn : 1 ≤ n ∧ n ≤ 60
        · have hw : w < 0 ∨ 1 < w := by omega
          simp (disch := omega) only [nI_iI, lN_lJ, iI_0, lJ_0, iI_add, iI_sub, iI_mul, iI_neg, lJ_add, lJ_sub, lJ_mul, lJ_neg, i_l, l_i, iI_cl, iI_inb, iI_eqT, iI_eqF, iI_ltT, iI_ltF, iI_leT, iI_leF, lJ_eqT, lJ_eqF, lJ_cG, lJ_cE, lJ_cL, lJ_cF, lJ_cGE, lJ_cLE, lJ_cNL, lJ_cNG, Int.cast_ofNat_Int, c_0, c_1, Int.natCast_add, Int.add_zero, cond_true, cond_false, Bool.and_self, Bool.and_true, Bool.true_and, Option.bind_some, decide_true, uI_hit, uI_miss, uI_o, uA_o, uA_s, ↓reduceIte, eq_self, true_or, or_true, or_false, false_or, true_and, and_true, false_and, and_false, or_self, and_self, not_false_eq_true, not_true_eq_false, tn_i, mq_in_y, mq_in_n, decide_eq_true]
        · simp (disch := omega) only [nI_iI, lN_lJ, iI_0, lJ_0, iI_add, iI_sub, iI_mul, iI_neg, lJ_add, lJ_sub, lJ_mul, lJ_neg, i_l, l_i, iI_cl, iI_inb, iI_eqT, iI_eqF, iI_ltT, iI_ltF, iI_leT, iI_leF, lJ_eqT, lJ_eqF, lJ_cG, lJ_cE, lJ_cL, lJ_cF, lJ_cGE, lJ_cLE, lJ_cNL, lJ_cNG, Int.cast_ofNat_Int, c_0, c_1, Int.natCast_add, Int.add_zero, cond_true, cond_false, Bool.and_self, Bool.and_true, Bool.true_and, Option.bind_some, decide_true, uI_hit, uI_miss, uI_o, uA_o, uA_s, ↓reduceIte, eq_self, true_or, or_true, or_false, false_or, true_and, and_true, false_and, and_false, or_self, and_self, not_false_eq_true, not_true_eq_false, tn_i, mq_in_n, decide_eq_true]
      show FX11_foretold d e _ _ _ = _
      unfold FX11_foretold
      rw [a_run_step st rfl, a_run_end]
      rfl
