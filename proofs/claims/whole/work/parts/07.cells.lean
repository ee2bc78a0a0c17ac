/-! ===== the instructions that read and change cells ===== -/
section AC
variable {G : aG} {l : Launch} {d : Nat} {M : aM} {n0 z0 pc : Nat} {L : aL} {S s : List Value} {h h' : aH} {r : Option Value}
theorem a_o_ldc {idx : Nat} {v : Int32} (hF : a_fok M.1.cls M.2.2.2.2.2.2) (hlk : a_lk M.2.2.2.2.2.2.2.1 idx = some (.int v)) (hd : decode M.2.1 pc = .ok (.ldc idx, 2)) (k : a_Rn G l d M n0 z0 (pc + 2) L (.int v :: S) h r h') : a_Rn G l d M n0 z0 pc L S h r h' := by
  intro p e st m args below meth c H locs ls C hR hL hS h0 h1 h2 h3 h4
  rcases hF.2.1 _ (a_lk_mem hlk) with ⟨w, e1, hw⟩ | ⟨w, e1, -⟩ | ⟨-, ⟨-, e1⟩ | ⟨-, e1⟩⟩
  · cases e1
    exact lv_ldc C.1 C.2.1 C.2.2.2.2.2.1 (C.2.2.2.2.1 _ hw) hd (k p e st m args below meth c H locs ls C hR hL hS h0 h1 h2 h3 h4)
  · cases e1
  · cases e1
  · cases e1
theorem a_o_ldcw {idx : Nat} {v : Int32} (hF : a_fok M.1.cls M.2.2.2.2.2.2) (hlk : a_lk M.2.2.2.2.2.2.2.1 idx = some (.int v)) (hd : decode M.2.1 pc = .ok (.ldc_w idx, 3)) (k : a_Rn G l d M n0 z0 (pc + 3) L (.int v :: S) h r h') : a_Rn G l d M n0 z0 pc L S h r h' := by
  intro p e st m args below meth c H locs ls C hR hL hS h0 h1 h2 h3 h4
  rcases hF.2.1 _ (a_lk_mem hlk) with ⟨w, e1, hw⟩ | ⟨w, e1, -⟩ | ⟨-, ⟨-, e1⟩ | ⟨-, e1⟩⟩
  · cases e1
    exact lv_ldcw C.1 C.2.1 C.2.2.2.2.2.1 (C.2.2.2.2.1 _ hw) hd (k p e st m args below meth c H locs ls C hR hL hS h0 h1 h2 h3 h4)
  · cases e1
  · cases e1
  · cases e1
theorem a_o_ldc2 {idx : Nat} {v : Int64} (hF : a_fok M.1.cls M.2.2.2.2.2.2) (hlk : a_lk M.2.2.2.2.2.2.2.1 idx = some (.long v)) (hd : decode M.2.1 pc = .ok (.ldc2_w idx, 3)) (k : a_Rn G l d M n0 z0 (pc + 3) L (.long v :: S) h r h') : a_Rn G l d M n0 z0 pc L S h r h' := by
  intro p e st m args below meth c H locs ls C hR hL hS h0 h1 h2 h3 h4
  rcases hF.2.1 _ (a_lk_mem hlk) with ⟨w, e1, hw⟩ | ⟨w, e1, hw⟩ | ⟨-, ⟨-, e1⟩ | ⟨-, e1⟩⟩
  · cases e1
  · cases e1
    exact lv_ldc2 C.1 C.2.1 C.2.2.2.2.2.1 (C.2.2.2.2.1 _ hw) hd (k p e st m args below meth c H locs ls C hR hL hS h0 h1 h2 h3 h4)
  · cases e1
  · cases e1
theorem a_o_ldcS {idx a : Nat} (hF : a_fok M.1.cls M.2.2.2.2.2.2) (hlk : a_lk M.2.2.2.2.2.2.2.1 idx = some (.ref a)) (hd : decode M.2.1 pc = .ok (.ldc idx, 2)) (k : a_Rn G l d M n0 z0 (pc + 2) L (.ref a :: S) h r h') : a_Rn G l d M n0 z0 pc L S h r h' := by
  intro p e st m args below meth c H locs ls C hR hL hS h0 h1 h2 h3 h4
  have hk := k p e st m args below meth c H locs ls C hR hL hS h0 h1 h2 h3 h4
  obtain ⟨hx, hb, -, -, -, hown, -, -, -, hX, -⟩ := C
  obtain ⟨-, -, -, hZ0, hZ1, -⟩ := hX
  rcases hF.2.1 _ (a_lk_mem hlk) with ⟨w, e1, hw⟩ | ⟨w, e1, hw⟩ | ⟨eo, ⟨ei, e1⟩ | ⟨ei, e1⟩⟩
  · cases e1
  · cases e1
  · cases e1
    cases ei
    rw [eo] at hown
    exact va_ldcS hx hb hown hZ0 hd hk
  · cases e1
    cases ei
    rw [eo] at hown
    exact va_ldcS hx hb hown hZ1 hd hk
theorem a_o_getf {idx ci j n o : Nat} (hF : a_fok M.1.cls M.2.2.2.2.2.2) (hlk : a_lk M.2.2.2.2.2.2.1 idx = some (ci, j)) (ho : h.1[o]? = some (ci + 4, n)) (hj : j < n) (hd : decode M.2.1 pc = .ok (.getfield idx, 3)) (k : a_Rn G l d M n0 z0 (pc + 3) L (a_rd (a_ty ci j) h o j :: s) h r h') : a_Rn G l d M n0 z0 pc L (.ref o :: s) h r h' := by
  intro p e st m args below meth c H locs ls C hR hL hS h0 h1 h2 h3 h4
  have hk := k p e st m args below meth c H locs ls C hR hL hS h0 h1 h2 h3 h4
  obtain ⟨q, hq, hjq, hl⟩ := hF.1 _ (a_lk_mem hlk)
  obtain ⟨c1, c2, c3, c4, -, -⟩ := a_cok ci q hq
  rw [List.map_cons, a_v_rd] at hk
  obtain ⟨hx, hb, -, -, hts, hown, -, -, hK, -, -⟩ := C
  show W p l e _ st m args below meth c H locs _ _ _ (F0 m pc ls (.ref (a_ad G o) :: s.map (a_v G)))
  rw [a_ad_in hR (a_lt ho)]
  refine va_get (D := G.2.1) (ci := ci) (C := q.1) (T := q.2.1) (N := q.2.2) hx hb hts c1 hown hK hR.2.2 o (by rw [a_ws_at (a_lt ho), a_el4 ho]) hq j hjq (hts _ hl) (fun x hxx => by rw [c4 j hjq] at hxx; exact hxx) ?_ hd hk
  rw [List.getElem?_map, List.getElem?_range hj]
  rfl
theorem a_o_putf {idx ci j n o : Nat} {v : Value} {H1 : aH} (hF : a_fok M.1.cls M.2.2.2.2.2.2) (hlk : a_lk M.2.2.2.2.2.2.1 idx = some (ci, j)) (ho : h.1[o]? = some (ci + 4, n)) (hj : j < n)
    (hfin : (!(a_fin ci j) || (M.2.2.2.2.2.1 && Nat.beq ci M.2.2.2.2.1)) = true) (hoc : ∀ q, acl[M.2.2.2.2.1]? = some q → q.1 = M.1.cls)
    (hn : narrow (a_ty ci j) (a_v G v) = a_v G v) (hf : fits (a_ty ci j) (a_v G v) = true) (e1 : H1.1 = h.1) (e2 : a_fv G (a_ty ci j) H1 o j = a_v G v) (e3 : ∀ k, k ≠ j → a_fv G (a_ty ci k) H1 o k = a_fv G (a_ty ci k) h o k) (e4 : ∀ k, k ≠ o → a_el G H1 k = a_el G h k)
    (hd : decode M.2.1 pc = .ok (.putfield idx, 3)) (k : a_Rn G l d M n0 z0 (pc + 3) L s H1 r h') : a_Rn G l d M n0 z0 pc L (v :: .ref o :: s) h r h' := by
  intro p e st m args below meth c H locs ls C hR hL hS h0 h1 h2 h3 h4
  obtain ⟨q, hq, hjq, hl⟩ := hF.1 _ (a_lk_mem hlk)
  obtain ⟨c1, c2, c3, c4, -, -⟩ := a_cok ci q hq
  have hC := C
  obtain ⟨hx, hb, -, -, hts, hown, -, hini, hK, -, -⟩ := C
  have he : (a_ws G h)[o]? = some (G.1 + o, .inr (ci, (List.range n).map (fun j => a_fv G (a_ty ci j) h o j))) := by rw [a_ws_at (a_lt ho), a_el4 ho]
  have hx1 : a_el G H1 o = .inr (ci, ((List.range n).map (fun j => a_fv G (a_ty ci j) h o j)).set j (a_v G v)) := by
    rw [a_el4 (by rw [e1]; exact ho), a_fs_set hj e2 e3]
  have hset := a_ws_set e1 hx1 e4
  have kk : ∀ (H2 : Heap) (locs1 : List Loc), va_P G.2.1 acl ((a_ws G h).set o (G.1 + o, .inr (ci, ((List.range n).map (fun j => a_fv G (a_ty ci j) h o j)).set j (a_v G v)))) H2 → va_D (fun q => G.1 ≤ q) ((a_ws G h).set o (G.1 + o, .inr (ci, ((List.range n).map (fun j => a_fv G (a_ty ci j) h o j)).set j (a_v G v)))) → va_S (fun q => G.1 ≤ q) st.heap H2 locs1 →
      W p l e (a_rm d (h'.1.length - n0) (a_sz h'.1 - z0)) st m args below meth c H2 locs1 (h.1.length - n0) (a_sz h.1 - z0) (MQ below (a_Q G r h') args st (h'.1.length - n0) (a_sz h'.1 - z0) (fun q => G.1 ≤ q)) (F0 m (pc + 3) ls (s.map (a_v G))) := by
    intro H2 locs1 hP2 _ hS2
    rw [hset] at hP2
    have h5 := k.go (e := e) (below := below) hC (by rw [e1]; exact hR.1) hP2 hL hS2 h0 (by rw [e1]; exact h1) (by rw [e1]; exact h2) (by rw [e1]; exact h3) (by rw [e1]; exact h4)
    rw [e1] at h5
    exact h5
  show W p l e _ st m args below meth c H locs _ _ _ (F0 m pc ls (a_v G v :: .ref (a_ad G o) :: s.map (a_v G)))
  rw [a_ad_in hR (a_lt ho)]
  have hfv : a_fin ci j = (q.2.1 j).2.2.2 := by unfold a_fin; rw [hq]
  rw [hfv] at hfin
  cases hb2 : (q.2.1 j).2.2.2 with
  | false =>
    exact va_put (D := G.2.1) (ci := ci) (C := q.1) (T := q.2.1) (N := q.2.2) hx hb hts c1 (a_ty ci) c2 c3 hown hK hR.2.2 a_wsD hS o he hq j hjq (hts _ hl) (fun x hxx => by rw [c4 j hjq] at hxx; exact hxx) hb2 (c2 j hjq) hn hf (by simp; exact hj) hd kk
  | true =>
    rw [hb2] at hfin
    simp only [Bool.not_true, Bool.false_or, Bool.and_eq_true] at hfin
    have ec : ci = M.2.2.2.2.1 := Nat.eq_of_beq_eq_true hfin.2
    exact va_putF (D := G.2.1) (ci := ci) (C := q.1) (T := q.2.1) (N := q.2.2) hx hb hts c1 (a_ty ci) c2 c3 hown hK hR.2.2 a_wsD hS o he hq j hjq (hts _ hl) (fun x hxx => by rw [c4 j hjq] at hxx; exact hxx) hb2 (hini hfin.1) ((c4 j hjq).trans (hoc q (by rw [← ec]; exact hq))) (c2 j hjq) hn hf (by simp; exact hj) hd kk
theorem a_fv_o {G : aG} {t : FieldType} {h1 h : aH} {k j : Nat} (e2 : h1.2.1 k j = h.2.1 k j) (e3 : h1.2.2.1 k j = h.2.2.1 k j) (e4 : h1.2.2.2 k j = h.2.2.2 k j) : a_fv G t h1 k j = a_fv G t h k j := by
  cases t <;> simp only [a_fv, e2, e3, e4]
theorem a_o_iald {o n : Nat} {i : Int32} (ho : h.1[o]? = some (0, n)) (hi : vp_in i n) (hd : decode M.2.1 pc = .ok (.iaload, 1)) (k : a_Rn G l d M n0 z0 (pc + 1) L (.int (h.2.2.1 o i.toNatClampNeg) :: s) h r h') : a_Rn G l d M n0 z0 pc L (.int i :: .ref o :: s) h r h' := by
  intro p e st m args below meth c H locs ls C hR hL hS h0 h1 h2 h3 h4
  show W p l e _ st m args below meth c H locs _ _ _ (F0 m pc ls (.int i :: .ref (a_ad G o) :: s.map (a_v G)))
  rw [a_ad_in hR (a_lt ho)]
  exact va_iald C.1 C.2.1 C.2.2.2.2.2.2.2.2.1 hR.2.2 o 0 (by rw [a_ws_at (a_lt ho), a_el0 ho]) rfl hi hd (k p e st m args below meth c H locs ls C hR hL hS h0 h1 h2 h3 h4)
theorem a_o_zald {o n : Nat} {i : Int32} (ho : h.1[o]? = some (2, n)) (hi : vp_in i n) (hd : decode M.2.1 pc = .ok (.baload, 1)) (k : a_Rn G l d M n0 z0 (pc + 1) L (.int (h.2.2.1 o i.toNatClampNeg) :: s) h r h') : a_Rn G l d M n0 z0 pc L (.int i :: .ref o :: s) h r h' := by
  intro p e st m args below meth c H locs ls C hR hL hS h0 h1 h2 h3 h4
  show W p l e _ st m args below meth c H locs _ _ _ (F0 m pc ls (.int i :: .ref (a_ad G o) :: s.map (a_v G)))
  rw [a_ad_in hR (a_lt ho)]
  exact va_zald C.1 C.2.1 C.2.2.2.2.2.2.2.2.1 hR.2.2 o 2 (by rw [a_ws_at (a_lt ho), a_el2 ho]) rfl hi hd (k p e st m args below meth c H locs ls C hR hL hS h0 h1 h2 h3 h4)
theorem a_o_lald {o n : Nat} {i : Int32} (ho : h.1[o]? = some (1, n)) (hi : vp_in i n) (hd : decode M.2.1 pc = .ok (.laload, 1)) (k : a_Rn G l d M n0 z0 (pc + 1) L (.long (h.2.2.2 o i.toNatClampNeg) :: s) h r h') : a_Rn G l d M n0 z0 pc L (.int i :: .ref o :: s) h r h' := by
  intro p e st m args below meth c H locs ls C hR hL hS h0 h1 h2 h3 h4
  show W p l e _ st m args below meth c H locs _ _ _ (F0 m pc ls (.int i :: .ref (a_ad G o) :: s.map (a_v G)))
  rw [a_ad_in hR (a_lt ho)]
  exact va_lald C.1 C.2.1 C.2.2.2.2.2.2.2.2.1 hR.2.2 o 1 (by rw [a_ws_at (a_lt ho), a_el1 ho]) rfl hi hd (k p e st m args below meth c H locs ls C hR hL hS h0 h1 h2 h3 h4)
theorem a_o_aald {o n : Nat} {i : Int32} (ho : h.1[o]? = some (3, n)) (hi : vp_in i n) (hd : decode M.2.1 pc = .ok (.aaload, 1)) (k : a_Rn G l d M n0 z0 (pc + 1) L (a_rf (h.2.1 o i.toNatClampNeg) :: s) h r h') : a_Rn G l d M n0 z0 pc L (.int i :: .ref o :: s) h r h' := by
  intro p e st m args below meth c H locs ls C hR hL hS h0 h1 h2 h3 h4
  have hk := k p e st m args below meth c H locs ls C hR hL hS h0 h1 h2 h3 h4
  rw [List.map_cons, a_v_rf] at hk
  show W p l e _ st m args below meth c H locs _ _ _ (F0 m pc ls (.int i :: .ref (a_ad G o) :: s.map (a_v G)))
  rw [a_ad_in hR (a_lt ho)]
  exact va_aldq C.1 C.2.1 C.2.2.2.2.2.2.2.2.1 hR.2.2 o 3 (by rw [a_ws_at (a_lt ho), a_el3 ho]) rfl hi hd hk
theorem a_o_alen {o n t : Nat} (ho : h.1[o]? = some (t, n)) (ht : t < 4) (hd : decode M.2.1 pc = .ok (.arraylength, 1)) (k : a_Rn G l d M n0 z0 (pc + 1) L (.int (Int32.ofNat n) :: s) h r h') : a_Rn G l d M n0 z0 pc L (.ref o :: s) h r h' := by
  intro p e st m args below meth c H locs ls C hR hL hS h0 h1 h2 h3 h4
  have hk := k p e st m args below meth c H locs ls C hR hL hS h0 h1 h2 h3 h4
  show W p l e _ st m args below meth c H locs _ _ _ (F0 m pc ls (.ref (a_ad G o) :: s.map (a_v G)))
  rw [a_ad_in hR (a_lt ho)]
  rcases (show t = 0 ∨ t = 1 ∨ t = 2 ∨ t = 3 by omega) with rfl | rfl | rfl | rfl
  · exact va_alen (x := (n, .inl (h.2.2.1 o))) C.1 C.2.1 C.2.2.2.2.2.2.2.2.1 hR.2.2 o 0 (by rw [a_ws_at (a_lt ho), a_el0 ho]) rfl rfl hd hk
  · exact va_alen (x := (n, .inr (.inl (h.2.2.2 o)))) C.1 C.2.1 C.2.2.2.2.2.2.2.2.1 hR.2.2 o 1 (by rw [a_ws_at (a_lt ho), a_el1 ho]) rfl rfl hd hk
  · exact va_alen (x := (n, .inl (h.2.2.1 o))) C.1 C.2.1 C.2.2.2.2.2.2.2.2.1 hR.2.2 o 2 (by rw [a_ws_at (a_lt ho), a_el2 ho]) rfl rfl hd hk
  · exact va_alen (x := (n, .inr (.inr (.inr (.inr fun j => (h.2.1 o j).map (a_ad G)))))) C.1 C.2.1 C.2.2.2.2.2.2.2.2.1 hR.2.2 o 3 (by rw [a_ws_at (a_lt ho), a_el3 ho]) rfl rfl hd hk
theorem a_o_iast {o n : Nat} {i x : Int32} (ho : h.1[o]? = some (0, n)) (hi : vp_in i n) (hd : decode M.2.1 pc = .ok (.iastore, 1)) (k : a_Rn G l d M n0 z0 (pc + 1) L s (a_uI h o i.toNatClampNeg x) r h') : a_Rn G l d M n0 z0 pc L (.int x :: .int i :: .ref o :: s) h r h' := by
  intro p e st m args below meth c H locs ls C hR hL hS h0 h1 h2 h3 h4
  show W p l e _ st m args below meth c H locs _ _ _ (F0 m pc ls (.int x :: .int i :: .ref (a_ad G o) :: s.map (a_v G)))
  rw [a_ad_in hR (a_lt ho)]
  refine va_iast C.1 C.2.1 C.2.2.2.2.2.2.2.2.1 hR.2.2 a_wsD hS o 0 (by rw [a_ws_at (a_lt ho), a_el0 ho]) rfl hi hd fun H1 locs1 hP1 _ hS1 => ?_
  rw [a_ws_set (h := h) (h1 := a_uI h o i.toNatClampNeg x) rfl (by rw [a_el0 (h := a_uI h o i.toNatClampNeg x) ho]; simp [a_uI]) (fun k hk => a_el_eq rfl rfl (if_neg hk) rfl)] at hP1
  exact k.go C hR.1 hP1 hL hS1 h0 h1 h2 h3 h4
theorem a_o_zast {o n : Nat} {i x : Int32} (ho : h.1[o]? = some (2, n)) (hi : vp_in i n) (hd : decode M.2.1 pc = .ok (.bastore, 1)) (k : a_Rn G l d M n0 z0 (pc + 1) L s (a_uI h o i.toNatClampNeg (vp_nar .boolean x)) r h') : a_Rn G l d M n0 z0 pc L (.int x :: .int i :: .ref o :: s) h r h' := by
  intro p e st m args below meth c H locs ls C hR hL hS h0 h1 h2 h3 h4
  show W p l e _ st m args below meth c H locs _ _ _ (F0 m pc ls (.int x :: .int i :: .ref (a_ad G o) :: s.map (a_v G)))
  rw [a_ad_in hR (a_lt ho)]
  refine va_zast C.1 C.2.1 C.2.2.2.2.2.2.2.2.1 hR.2.2 a_wsD hS o 2 (by rw [a_ws_at (a_lt ho), a_el2 ho]) rfl hi hd fun H1 locs1 hP1 _ hS1 => ?_
  rw [a_ws_set (h := h) (h1 := a_uI h o i.toNatClampNeg (vp_nar .boolean x)) rfl (by rw [a_el2 (h := a_uI h o i.toNatClampNeg (vp_nar .boolean x)) ho]; simp [a_uI]) (fun k hk => a_el_eq rfl rfl (if_neg hk) rfl)] at hP1
  exact k.go C hR.1 hP1 hL hS1 h0 h1 h2 h3 h4
theorem a_o_last {o n : Nat} {i : Int32} {x : Int64} (ho : h.1[o]? = some (1, n)) (hi : vp_in i n) (hd : decode M.2.1 pc = .ok (.lastore, 1)) (k : a_Rn G l d M n0 z0 (pc + 1) L s (a_uJ h o i.toNatClampNeg x) r h') : a_Rn G l d M n0 z0 pc L (.long x :: .int i :: .ref o :: s) h r h' := by
  intro p e st m args below meth c H locs ls C hR hL hS h0 h1 h2 h3 h4
  show W p l e _ st m args below meth c H locs _ _ _ (F0 m pc ls (.long x :: .int i :: .ref (a_ad G o) :: s.map (a_v G)))
  rw [a_ad_in hR (a_lt ho)]
  refine va_last C.1 C.2.1 C.2.2.2.2.2.2.2.2.1 hR.2.2 a_wsD hS o 1 (by rw [a_ws_at (a_lt ho), a_el1 ho]) rfl hi hd fun H1 locs1 hP1 _ hS1 => ?_
  rw [a_ws_set (h := h) (h1 := a_uJ h o i.toNatClampNeg x) rfl (by rw [a_el1 (h := a_uJ h o i.toNatClampNeg x) ho]; simp [a_uJ]) (fun k hk => a_el_eq rfl rfl rfl (if_neg hk))] at hP1
  exact k.go C hR.1 hP1 hL hS1 h0 h1 h2 h3 h4
theorem a_o_aast {o n x nx : Nat} {i : Int32} (ho : h.1[o]? = some (3, n)) (hxo : h.1[x]? = some (7 + 4, nx)) (hi : vp_in i n) (hd : decode M.2.1 pc = .ok (.aastore, 1)) (k : a_Rn G l d M n0 z0 (pc + 1) L s (a_uR h o i.toNatClampNeg (some x)) r h') : a_Rn G l d M n0 z0 pc L (.ref x :: .int i :: .ref o :: s) h r h' := by
  intro p e st m args below meth c H locs ls C hR hL hS h0 h1 h2 h3 h4
  show W p l e _ st m args below meth c H locs _ _ _ (F0 m pc ls (.ref (a_ad G x) :: .int i :: .ref (a_ad G o) :: s.map (a_v G)))
  have hax := a_ad_in hR (a_lt hxo)
  rw [a_ad_in hR (a_lt ho), hax]
  refine va_astq (r := (RX7, TX7, 10)) C.1 C.2.1 C.2.2.2.2.2.2.2.2.1 hR.2.2 a_wsD hS o 3 x 7 (by rw [a_ws_at (a_lt ho), a_el3 ho]) rfl (by rw [a_ws_at (a_lt hxo), a_el4 hxo]) rfl hi hd fun H1 locs1 hP1 _ hS1 => ?_
  rw [a_ws_set (h := h) (h1 := a_uR h o i.toNatClampNeg (some x)) rfl (by
    rw [a_el3 (h := a_uR h o i.toNatClampNeg (some x)) ho]
    congr 7
    funext j
    by_cases hj : j = i.toNatClampNeg
    · subst hj
      simp [a_uR, va_up, hax]
    · simp [a_uR, va_up, hj]) (fun k hk => a_el_eq rfl (if_neg hk) rfl rfl)] at hP1
  exact k.go C hR.1 hP1 hL hS1 h0 h1 h2 h3 h4
end AC
