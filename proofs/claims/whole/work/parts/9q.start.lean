/-! ===== the law from its entry ===== -/
theorem st_K {s : State} {args : Array Value} (hts : ∀ w ∈ lw_tbl, w.before args s = true) : ∃ (D : va_G) (q : ClassId × ClassId × ClassId × ClassId), va_K D acl [(q.1, .int), (q.2.1, .long), (q.2.2.1, .boolean), (q.2.2.2, .object "NightCats$Text")] s := by
  have ht : ∀ w ∈ a_tb, w.before args s = true := fun w hw => hts w (List.mem_filter.mp hw).1
  have h0 : ∀ k : Nat, ∃ q : ClassId × (Nat → Nat), ∀ r : vw_C, acl[k]? = some r → u_Kn s r.1 r.2.1 r.2.2 q.1 q.2 := by
    intro k
    cases h : acl[k]? with
    | none => exact ⟨(0, fun _ => 0), fun r hr => by cases hr⟩
    | some r =>
      obtain ⟨c1, -, -, -, c5, -⟩ := a_cok k r h
      obtain ⟨cC, iS, hK⟩ := u_known (n := r.2.2) ht c1 (ht _ c5)
      exact ⟨(cC, iS), fun r' hr => by cases hr; exact hK⟩
  obtain ⟨ad, had⟩ := Classical.axiomOfChoice h0
  obtain ⟨i1, i2, i3, i4, i5, i6⟩ := Cond.arrayClass_spec (ht _ a_t_arr.1)
  obtain ⟨j1, j2, j3, j4, j5, j6⟩ := Cond.arrayClass_spec (ht _ a_t_arr.2.1)
  obtain ⟨k1, k2, k3, k4, k5, k6⟩ := Cond.arrayClass_spec (ht _ a_t_arr.2.2)
  obtain ⟨l0, l1, l2, l3, -, l5, l6, l4⟩ := Cond.arrayOver_spec (hts (.arrayOver (.object "NightCats$Text")) (by decide +kernel))
  refine ⟨(fun k => (ad k).1, fun k => (ad k).2), (i1, j1, k1, l1), fun k q hq => had k q hq, fun k q hq => ?_⟩
  match k, hq with
  | 0, hq => cases hq; exact ⟨fun N z => ⟨fun k h => (by cases h), i2, i5, i3, i6⟩, i4⟩
  | 1, hq => cases hq; exact ⟨fun N z => ⟨fun k h => (by cases h), j2, j5, j3, j6⟩, j4⟩
  | 2, hq => cases hq; exact ⟨fun N z => ⟨fun k h => (by cases h), k2, k5, k3, k6⟩, k4⟩
  | 3, hq => cases hq; exact ⟨fun N z => ⟨fun k h => (by cases h), l2, l5, l0, l6⟩, l2, l0, l5, l6, l3, l4⟩
  | k + 4, hq => simp at hq
def st_tm (i : Nat) : Term := if i = 0 then .string "NightCats$Reader" 83 else .string "NightCats$Reader" 76
def st_el (i j : Nat) : Cond := .eq (.elem (.field (st_tm i) "java/lang/String" "value" "[B") (.int (Int32.ofNat j))) (.int ((a_sb.getD i []).getD j 0))
theorem st_in0 : ∀ j : Nat, j < 156 → st_el 0 j ∈ flatC (Jvm.Cond.and given_1 narrow_1) := va_run (p := 13) (by decide +kernel)
theorem st_in1 : ∀ j : Nat, j < 11 → st_el 1 j ∈ flatC (Jvm.Cond.and given_1 narrow_1) := va_run (p := 173) (by decide +kernel)
theorem st_two {P : Nat → Prop} (h0 : P 0) (h1 : P 1) (i : Nat) (hi : i < 2) : P i := by
  rcases (show i = 0 ∨ i = 1 by omega) with rfl | rfl
  · exact h0
  · exact h1
theorem st_S {s : State} {args : Array Value} {A : Nat → Prop} (hgv : (Jvm.Cond.and given_1 narrow_1).before args s = true) (hA : ∀ a : Nat, a < s.heap.size → ¬ A a) : ∃ adK adV : Nat → Nat, vk_S 2 a_sl a_sb adK adV A s s.heap ∧ ∀ i : Nat, i < 2 → (st_tm i).eval args s none [] s = some (.ref (adK i)) := by
  have hs := flat_of_before _ hgv
  have p1 : ∀ i : Nat, i < 2 → a_sl.getD i 0 < 2 ^ 31 := st_two (by decide) (by decide)
  have p2 : ∀ i : Nat, i < 2 → (Cond.exactly (st_tm i) "java/lang/String").before args s = true := st_two (P := fun i => (Cond.exactly (st_tm i) "java/lang/String").before args s = true) (hs (.exactly (st_tm 0) "java/lang/String") (by decide +kernel)) (hs (.exactly (st_tm 1) "java/lang/String") (by decide +kernel))
  have p3 : ∀ i : Nat, i < 2 → (Cond.eq (.field (st_tm i) "java/lang/String" "coder" "B") (.int 0)).before args s = true := st_two (P := fun i => (Cond.eq (.field (st_tm i) "java/lang/String" "coder" "B") (.int 0)).before args s = true) (hs (.eq (.field (st_tm 0) "java/lang/String" "coder" "B") (.int 0)) (by decide +kernel)) (hs (.eq (.field (st_tm 1) "java/lang/String" "coder" "B") (.int 0)) (by decide +kernel))
  have p4 : ∀ i : Nat, i < 2 → (Cond.arrayOf (.field (st_tm i) "java/lang/String" "value" "[B") .byte).before args s = true := st_two (P := fun i => (Cond.arrayOf (.field (st_tm i) "java/lang/String" "value" "[B") .byte).before args s = true) (hs (.arrayOf (.field (st_tm 0) "java/lang/String" "value" "[B") .byte) (by decide +kernel)) (hs (.arrayOf (.field (st_tm 1) "java/lang/String" "value" "[B") .byte) (by decide +kernel))
  have p5 : ∀ i : Nat, i < 2 → (Cond.eq (.length (.field (st_tm i) "java/lang/String" "value" "[B")) (.int (Int32.ofNat (a_sl.getD i 0)))).before args s = true := st_two (P := fun i => (Cond.eq (.length (.field (st_tm i) "java/lang/String" "value" "[B")) (.int (Int32.ofNat (a_sl.getD i 0)))).before args s = true) (hs (.eq (.length (.field (st_tm 0) "java/lang/String" "value" "[B")) (.int (Int32.ofNat (a_sl.getD 0 0)))) (by decide +kernel)) (hs (.eq (.length (.field (st_tm 1) "java/lang/String" "value" "[B")) (.int (Int32.ofNat (a_sl.getD 1 0)))) (by decide +kernel))
  have p6 : ∀ i : Nat, i < 2 → ∀ j : Nat, j < a_sl.getD i 0 → (st_el i j).before args s = true := st_two (P := fun i => ∀ j : Nat, j < a_sl.getD i 0 → (st_el i j).before args s = true) (fun j hj => hs _ (st_in0 j hj)) (fun j hj => hs _ (st_in1 j hj))
  refine vk_Sof (tm := st_tm) p1 p2 p3 p4 p5 p6 (fun i j hi hj hij => ?_) hA
  have n1 : (Cond.not (Cond.eq (st_tm 0) (st_tm 1))).before args s = true := hs (.not (.eq (st_tm 0) (st_tm 1))) (by decide +kernel)
  rcases (show (i = 0 ∧ j = 1) ∨ (i = 1 ∧ j = 0) by omega) with ⟨rfl, rfl⟩ | ⟨rfl, rfl⟩
  · exact Or.inl n1
  · exact Or.inr n1
theorem vk_S_congr {N : Nat} {len : List Nat} {byt : List (List Int32)} {adK adV bK bV : Nat → Nat} {A : Nat → Prop} {U : State} {H : Heap} (hK : ∀ i : Nat, i < N → bK i = adK i) (hV : ∀ i : Nat, i < N → bV i = adV i) (h : vk_S N len byt adK adV A U H) : vk_S N len byt bK bV A U H := by
  refine ⟨fun i hi => ?_, fun i j hi hj e => ?_⟩
  · rw [hK i hi, hV i hi]; exact h.1 i hi
  · rw [hK i hi, hK j hj] at e; exact h.2 i j hi hj e
def st_G (b n : Nat) (D : va_G) (q : ClassId × ClassId × ClassId × ClassId) (adK adV : Nat → Nat) : aG := (n, D, q, fun k => if k = 2 then b else if k < 10 then adK k else adV (k - 10))
theorem st_X {s : State} {args : Array Value} {b : Nat} {D : va_G} {q : ClassId × ClassId × ClassId × ClassId} {adK adV : Nat → Nat} (hts : ∀ w ∈ lw_tbl, w.before args s = true) (hgv : (Jvm.Cond.and given_1 narrow_1).before args s = true)
    (h1 : vk_S 2 a_sl a_sb adK adV (fun q => s.heap.size ≤ q) s s.heap) (h2 : ∀ i : Nat, i < 2 → (st_tm i).eval args s none [] s = some (.ref (adK i))) : a_X (st_G b s.heap.size D q adK adV) s s.heap := by
  have hs := flat_of_before _ hgv
  have hA : ∀ a : Nat, a < s.heap.size → ¬ s.heap.size ≤ a := fun a h => Nat.not_le.mpr h
  have hn : ∀ w ∈ a_nst, w ∈ lw_tbl ∧ w.onTables = true := by decide +kernel
  have t1 : Cond.laysStatic "java/lang/String" "COMPACT_STRINGS" "Z" ∈ lw_tbl := by decide +kernel
  have t2 : Cond.laysStatic "jdk/internal/util/Preconditions" "SIOOBE_FORMATTER" "Ljava/util/function/BiFunction;" ∈ lw_tbl := by decide +kernel
  have t3 : Cond.initialized "java/lang/String" ∈ lw_tbl := by decide +kernel
  have t4 : Cond.initialized "jdk/internal/util/Preconditions" ∈ lw_tbl := by decide +kernel
  have t5 : Cond.stringRef "NightCats$Reader" 83 a_w0 ∈ lw_tbl := by decide +kernel
  have t6 : Cond.stringRef "NightCats$Reader" 76 a_w1 ∈ lw_tbl := by decide +kernel
  have t7 : Cond.arrayOver (.object "NightCats$Text") ∈ lw_tbl := by decide +kernel
  refine ⟨fun w hw => va_Nw.of (hn w hw).2 (hts w (hn w hw).1), va_AO.of (hts _ t7), vk_S_congr (fun i hi => ?_) (fun i hi => ?_) h1, ?_, ?_, va_Zof (hts _ t1) (hts _ t3) (va_eqi (hs _ (by decide +kernel))) hA, va_Zqof (hts _ t2) (hts _ t4) (hs _ (by decide +kernel)) hA⟩
  · show (if i = 2 then b else if i < 10 then adK i else adV (i - 10)) = adK i
    rw [if_neg (show ¬i = 2 by omega), if_pos (show i < 10 by omega)]
  · show (if i + 10 = 2 then b else if i + 10 < 10 then adK (i + 10) else adV (i + 10 - 10)) = adV i
    rw [if_neg (show ¬i + 10 = 2 by omega), if_neg (show ¬i + 10 < 10 by omega), Nat.add_sub_cancel]
  · exact vk_R.of (hts _ t5) (h2 0 (by omega))
  · exact vk_R.of (hts _ t6) (h2 1 (by omega))
theorem w_C1 (q : w_T) : (w_C q).1 = q.1 := rfl
theorem e283 : w283.1 = s283.1 := by rw [v283, w_C1]
theorem e1K : w1.1 = [(14, 11)] := rfl
set_option maxRecDepth 100000 in
theorem lw_walks {G : aG} {p : Program} {l : Launch} {en : Env} {s : State} {m : MethodId} {below : List Frame} {meth : Method} {c : Code} {b N : Nat} {xs : Nat → Int32} (C : LCx G p s m b N xs meth c) (hN : N ≤ 3072) : LW G p l en s m below meth c b 0 [some (.ref 1002), none, none, none] [] w0 := by
  obtain ⟨dF, hF, hC, hM⟩ := start_ok
  have g1 : w1.1.length ≤ w283.1.length ∧ a_sz w1.1 ≤ a_sz w283.1 ∧ w283.1.length ≤ 600000 ∧ a_sz w283.1 ≤ 7302250 := by
    rw [e283, e1K]
    decide +kernel
  have g2 : w283.1.length + 1 ≤ 1000 ∧ a_sz w283.1 + 33 ≤ 7302250 ∧ w283.1.length = 108 := by
    rw [e283]
    decide +kernel
  have g3 : z0.1.length ≤ (hp dF (fun _ _ => 0)).1.length ∧ a_sz z0.1 ≤ a_sz (hp dF (fun _ _ => 0)).1 ∧ (hp dF (fun _ _ => 0)).1.length ≤ 600000 ∧ a_sz (hp dF (fun _ _ => 0)).1 ≤ 7302250 := by
    show K109.length ≤ SH.length ∧ a_sz K109 ≤ a_sz SH ∧ SH.length ≤ 600000 ∧ a_sz SH ≤ 7302250
    decide +kernel
  refine LW.new (ci := 10) (q := (RX10, TX10, 11)) C (show Cond.classLink x.cls 7 RX10 ∈ a_tb from a_tb1_at 21 rfl rfl) rfl (show 0 + 1 ≤ 1000 ∧ 0 + 11 ≤ 7302250 by decide) (show decode code 0 = .ok (.new 7, 3) by decide +kernel) ?_
  show LW G p l en s m below meth c b 3 [some (.ref 1002), none, none, none] [.ref 0] w1
  refine LW.dup C (show decode code 3 = .ok (.dup, 1) by decide +kernel) ?_
  refine LW.callI (M' := mX10_init) (d' := 3) (As := []) (rest := [.ref 0]) (r1 := none) (H1 := w283) C inX10_init_0 (show decode code 4 = .ok (.invokespecial 9, 3) by decide +kernel) (show Cond.methodLink x.cls 9 yX10_init ∈ a_tb from a_tb1_at 23 rfl rfl) mwX10_init rfl (by decide) (Nat.le_of_ble_eq_true rfl) g1 rfl ?_
  refine LW.astore C rfl (show decode code 7 = .ok (.astore_n 1, 1) by decide +kernel) ?_
  refine LW.new (ci := 11) (q := (RX11, TX11, 33)) C (show Cond.classLink x.cls 10 RX11 ∈ a_tb from a_tb6_at 25 rfl rfl) rfl ⟨g2.1, g2.2.1⟩ (show decode code 8 = .ok (.new 10, 3) by decide +kernel) ?_
  rw [g2.2.2]
  show LW G p l en s m below meth c b 11 [some (.ref 1002), some (.ref 0), none, none] [.ref 108] w284
  rw [w284_z]
  refine LW.dup C (show decode code 11 = .ok (.dup, 1) by decide +kernel) ?_
  refine LW.callI (M' := mX11_init) (d' := 1) (As := []) (rest := [.ref 108]) (r1 := none) (H1 := hp dF (fun _ _ => 0)) C (inX11_init_108 hF) (show decode code 12 = .ok (.invokespecial 12, 3) by decide +kernel) (show Cond.methodLink x.cls 12 yX11_init ∈ a_tb from a_tb6_at 27 rfl rfl) mwX11_init rfl (by decide) (Nat.le_of_ble_eq_true rfl) g3 rfl ?_
  refine LW.astore C rfl (show decode code 15 = .ok (.astore_n 2, 1) by decide +kernel) ?_
  refine LW.blk C (show a_ch code 16 [.iconst 0] 17 = true by decide +kernel) (show l_xs N xs [.iconst 0] _ [] = some ([], [.int 0]) from rfl) trivial ?_
  refine LW.istore C rfl (show decode code 17 = .ok (.istore_n 3, 1) by decide +kernel) ?_
  exact lw_loop C hN (N + 1) 0 S0 dF (fun _ _ => 0) (by omega) (Nat.zero_le N) S0_ok hC hM
/-- YOUR PART: from the entry, for every script of at most 3072 ints, the law comes to its end with true -/
theorem whole_start {p : Program} {e : Env} {s : State} {m : MethodId} {below : List Frame} {meth : Method} {c : Code} (l : Launch) (hflags : l.flags = flags0) {b L : Nat} {xs : Nat → Int32} (hL : L ≤ 3072) (C0 : lw_At p s m meth c b L xs) : W p l e room_1 s m #[Value.ref b] below meth c s.heap [] 0 0 (lw_Z below #[Value.ref b] s) (entryFrame m ([Value.ref b] : List Value).toArray 4) := by
  obtain ⟨hx, hb, hr, hml, hown, hts, hX, hbl, hlocks, hgv⟩ := id C0
  obtain ⟨D, q, hK⟩ := st_K hts
  obtain ⟨adK, adV, hS, hE⟩ := st_S (A := fun q => s.heap.size ≤ q) hgv (fun a h => Nat.not_le.mpr h)
  have ht : ∀ w ∈ a_tb, w.before #[Value.ref b] s = true := fun w hw => hts w (List.mem_filter.mp hw).1
  have C : LCx (st_G b s.heap.size D q adK adV) p s m b L xs meth c := ⟨⟨hx, hb, hr, hml, ht, hown, hlocks, (fun h => by cases h), hK, st_X hts hgv hS hE, Nat.le_refl _⟩, hX, rfl, hbl, rfl⟩
  have hl := lv_entry ([.ref b]) (n := 4) (Nat.le_of_ble_eq_true rfl)
  rw [lg_entry_eq]
  generalize (lg_sl ([.ref b]) ++ List.replicate (4 - (lg_sl ([.ref b])).length) Slot.unset).toArray = ls at hl ⊢
  refine lw_walks C hL s.heap [] ls ⟨Nat.zero_le _, rfl, fun k q h => ?_⟩ ⟨rfl, ?_⟩ va_S.rf
  · have h2 : ([] : va_W)[k]? = some q := h
    simp at h2
  · show lv_has ls 4 [(0, .ref (a_ad (st_G b s.heap.size D q adK adV) 1002))]
    rw [l_script C]
    exact hl
