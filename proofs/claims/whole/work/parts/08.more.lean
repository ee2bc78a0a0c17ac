/-! ===== new cells, the JDK's own methods ===== -/
theorem a_sz_app : ∀ (k : aK) (q : Nat × Nat), a_sz (k ++ [q]) = a_sz k + q.2
  | [], q => by simp [a_sz]
  | a :: k, q => by
    rw [List.cons_append, a_sz, a_sz_app k q, a_sz]
    omega
theorem a_new_len (h : aH) (q : Nat × Nat) : (a_new h q).1.length = h.1.length + 1 := by simp [a_new]
theorem a_new_el {G : aG} {h : aH} {q : Nat × Nat} {k : Nat} (hk : k < h.1.length) : a_el G (a_new h q) k = a_el G h k := by
  have hne : ¬ k = h.1.length := Nat.ne_of_lt hk
  refine a_el_eq ?_ (if_neg hne) (if_neg hne) (if_neg hne)
  simp only [a_new, List.getD_eq_getElem?_getD, List.getElem?_append_left hk]
theorem a_new_at {h : aH} {q : Nat × Nat} : (a_new h q).1[h.1.length]? = some q := by simp [a_new]
theorem a_ty_ne (c j : Nat) : a_ty c j ≠ .float ∧ a_ty c j ≠ .double := by
  unfold a_ty
  split
  · unfold tyX0; split <;> exact ⟨fun h => FieldType.noConfusion h, fun h => FieldType.noConfusion h⟩
  · unfold tyX1; split <;> exact ⟨fun h => FieldType.noConfusion h, fun h => FieldType.noConfusion h⟩
  · unfold tyX2; split <;> exact ⟨fun h => FieldType.noConfusion h, fun h => FieldType.noConfusion h⟩
  · unfold tyX3; split <;> exact ⟨fun h => FieldType.noConfusion h, fun h => FieldType.noConfusion h⟩
  · unfold tyX4; split <;> exact ⟨fun h => FieldType.noConfusion h, fun h => FieldType.noConfusion h⟩
  · unfold tyX5; split <;> exact ⟨fun h => FieldType.noConfusion h, fun h => FieldType.noConfusion h⟩
  · unfold tyX6; split <;> exact ⟨fun h => FieldType.noConfusion h, fun h => FieldType.noConfusion h⟩
  · unfold tyX7; split <;> exact ⟨fun h => FieldType.noConfusion h, fun h => FieldType.noConfusion h⟩
  · unfold tyX8; split <;> exact ⟨fun h => FieldType.noConfusion h, fun h => FieldType.noConfusion h⟩
  · unfold tyX9; split <;> exact ⟨fun h => FieldType.noConfusion h, fun h => FieldType.noConfusion h⟩
  · unfold tyX10; split <;> exact ⟨fun h => FieldType.noConfusion h, fun h => FieldType.noConfusion h⟩
  · unfold tyX11; split <;> exact ⟨fun h => FieldType.noConfusion h, fun h => FieldType.noConfusion h⟩
section AN
variable {G : aG} {l : Launch} {d : Nat} {M : aM} {n0 z0 pc : Nat} {L : aL} {S s : List Value} {h h' : aH} {r : Option Value}
/-- behind a new cell: what W's row asks of the rest -/
theorem a_born {q : Nat × Nat} {x : va_E} (hx : a_el G (a_new h q) h.1.length = x) (hlim : h.1.length + 1 ≤ 1000 ∧ h.1.length + 1 ≤ h'.1.length ∧ a_sz h.1 + q.2 ≤ a_sz h'.1) (k : a_Rn G l d M n0 z0 pc L (.ref h.1.length :: s) (a_new h q) r h')
    {p : Program} {e : Env} {st : State} {m : MethodId} {args : Array Value} {below : List Frame} {meth : Method} {c : Code} {H1 : Heap} {locs : List Loc} {ls : Array Slot} {a : Nat}
    (C : a_cx G M p st m args meth c) (ha : a = G.1 + h.1.length) (hP : va_P G.2.1 acl (a_ws G h ++ [(a, x)]) H1) (hL : a_LH G ls M.2.2.1 L) (hS : va_S (fun q => G.1 ≤ q) st.heap H1 locs) (h0 : st.heap.size = G.1 + n0) (h1 : n0 ≤ h.1.length) (h2 : z0 ≤ a_sz h.1) :
    W p l e (a_rm d (h'.1.length - n0) (a_sz h'.1 - z0)) st m args below meth c H1 locs (h.1.length - n0 + 1) (a_sz h.1 - z0 + q.2) (MQ below (a_Q G r h') args st (h'.1.length - n0) (a_sz h'.1 - z0) (fun q => G.1 ≤ q)) (F0 m pc ls (.ref a :: s.map (a_v G))) := by
  subst ha
  rw [a_ws_push hx (fun k hk => a_new_el hk)] at hP
  have h5 := k.go (e := e) (below := below) C (by rw [a_new_len]; exact hlim.1) hP hL hS h0 (by rw [a_new_len]; omega) (by show z0 ≤ a_sz (h.1 ++ [q]); rw [a_sz_app]; omega) (by rw [a_new_len]; exact hlim.2.1) (by show a_sz (h.1 ++ [q]) ≤ _; rw [a_sz_app]; exact hlim.2.2)
  rw [a_new_len, show a_sz (a_new h q).1 = a_sz h.1 + q.2 from a_sz_app _ _, show h.1.length + 1 - n0 = h.1.length - n0 + 1 by omega, show a_sz h.1 + q.2 - z0 = a_sz h.1 - z0 + q.2 by omega] at h5
  have hin : a_ad G h.1.length = G.1 + h.1.length := if_pos (by omega)
  have e9 : (Value.ref h.1.length :: s).map (a_v G) = .ref (G.1 + h.1.length) :: s.map (a_v G) := by
    rw [List.map_cons]
    show Value.ref (a_ad G h.1.length) :: _ = _
    rw [hin]
  rw [e9] at h5
  exact h5
theorem a_newq {x : va_E} {q : Nat} {H1 H0 : Heap} (hD : va_D (fun q => G.1 ≤ q) (a_ws G h ++ [(q, x)])) (hP : va_P G.2.1 acl (a_ws G h ++ [(q, x)]) H1) (h0 : H0.size = G.1 + n0) (h1 : n0 ≤ h.1.length) (hz : H1.size ≤ H0.size + (h.1.length - n0 + 1)) : q = G.1 + h.1.length := by
  have hat : (a_ws G h ++ [(q, x)])[h.1.length]? = some (q, x) := by
    rw [List.getElem?_append_right (by rw [a_ws_len]; exact Nat.le_refl _), a_ws_len, Nat.sub_self]
    rfl
  have h2 : q < H1.size := (hP _ _ hat).lt
  have h3 : G.1 ≤ q := hD.2 _ _ hat
  rcases Nat.lt_or_ge q (G.1 + h.1.length) with h4 | h4
  · have hk : q - G.1 < h.1.length := by omega
    have h5 := hD.1 (q - G.1) h.1.length (G.1 + (q - G.1), a_el G h (q - G.1)) (q, x) (by rw [List.getElem?_append_left (by rw [a_ws_len]; exact hk), a_ws_at hk]) hat (by show G.1 + (q - G.1) = q; omega)
    omega
  · omega
theorem a_tys_new {ty : FieldType} {cA : ClassId} {st : State} (hK : va_K G.2.1 acl (a_tys G ++ [(cA, ty)]) st) {t0 : Nat} {cB : ClassId} (ht : (a_tys G)[t0]? = some (cB, ty)) : cA = cB := by
  have h1 := (hK.2 (a_tys G).length (cA, ty) (by simp)).2
  have h2 := (hK.2 t0 (cB, ty) (by rw [List.getElem?_append_left (List.getElem?_eq_some_iff.mp ht).1]; exact ht)).2
  cases ty with
  | object C =>
    obtain ⟨_, _, _, _, _, e1⟩ := h1
    obtain ⟨_, _, _, _, _, e2⟩ := h2
    exact Option.some.inj (e1.symm.trans e2)
  | _ => exact Option.some.inj (Eq.symm h1 |>.trans h2)
theorem a_o_newI {n : Int32} (hn : ¬ n < 0 ∧ n.toNatClampNeg ≤ 10000) (hlim : h.1.length + 1 ≤ 1000 ∧ h.1.length + 1 ≤ h'.1.length ∧ a_sz h.1 + n.toNatClampNeg ≤ a_sz h'.1) (hd : decode M.2.1 pc = .ok (.newarray .int, 2)) (k : a_Rn G l d M n0 z0 (pc + 2) L (.ref h.1.length :: s) (a_new h (0, n.toNatClampNeg)) r h') : a_Rn G l d M n0 z0 pc L (.int n :: s) h r h' := by
  intro p e st m args below meth c H locs ls C hR hL hS h0 h1 h2 h3 h4
  have hC := C
  obtain ⟨hx, hb, -, -, hts, hown, -, -, hK, -, hb0⟩ := C
  refine va_newa (atype := .int) (ty := .int) (a0 := (n.toNatClampNeg, .inl fun _ => 0)) hx hb (hts _ a_t_arr.1) rfl hK hR.2.2 a_wsD hS (fun q hq => Nat.le_trans hb0 hq) (fun _ => rfl) hn.1 rfl (by show n.toNatClampNeg * 4 ≤ 536870912; omega) (by show h.1.length - n0 + 1 ≤ h'.1.length - n0; omega) (by show a_sz h.1 - z0 + _ ≤ a_sz h'.1 - z0; omega) hd fun q cA H1 hK1 hP1 hD1 hS1 => ?_
  have ec := a_tys_new hK1 (t0 := 0) rfl
  subst ec
  exact W.sized fun hz => a_born (q := (0, n.toNatClampNeg)) (by rw [a_el0 a_new_at]; simp [a_new]) hlim k hC (a_newq hD1 hP1 h0 h1 hz) hP1 hL hS1 h0 h1 h2
theorem a_o_newJ {n : Int32} (hn : ¬ n < 0 ∧ n.toNatClampNeg ≤ 10000) (hlim : h.1.length + 1 ≤ 1000 ∧ h.1.length + 1 ≤ h'.1.length ∧ a_sz h.1 + n.toNatClampNeg ≤ a_sz h'.1) (hd : decode M.2.1 pc = .ok (.newarray .long, 2)) (k : a_Rn G l d M n0 z0 (pc + 2) L (.ref h.1.length :: s) (a_new h (1, n.toNatClampNeg)) r h') : a_Rn G l d M n0 z0 pc L (.int n :: s) h r h' := by
  intro p e st m args below meth c H locs ls C hR hL hS h0 h1 h2 h3 h4
  have hC := C
  obtain ⟨hx, hb, -, -, hts, hown, -, -, hK, -, hb0⟩ := C
  refine va_newa (atype := .long) (ty := .long) (a0 := (n.toNatClampNeg, .inr (.inl fun _ => 0))) hx hb (hts _ a_t_arr.2.1) rfl hK hR.2.2 a_wsD hS (fun q hq => Nat.le_trans hb0 hq) (fun _ => rfl) hn.1 rfl (by show n.toNatClampNeg * 8 ≤ 536870912; omega) (by show h.1.length - n0 + 1 ≤ h'.1.length - n0; omega) (by show a_sz h.1 - z0 + _ ≤ a_sz h'.1 - z0; omega) hd fun q cA H1 hK1 hP1 hD1 hS1 => ?_
  have ec := a_tys_new hK1 (t0 := 1) rfl
  subst ec
  exact W.sized fun hz => a_born (q := (1, n.toNatClampNeg)) (by rw [a_el1 a_new_at]; simp [a_new]) hlim k hC (a_newq hD1 hP1 h0 h1 hz) hP1 hL hS1 h0 h1 h2
theorem a_o_newZ {n : Int32} (hn : ¬ n < 0 ∧ n.toNatClampNeg ≤ 10000) (hlim : h.1.length + 1 ≤ 1000 ∧ h.1.length + 1 ≤ h'.1.length ∧ a_sz h.1 + n.toNatClampNeg ≤ a_sz h'.1) (hd : decode M.2.1 pc = .ok (.newarray .boolean, 2)) (k : a_Rn G l d M n0 z0 (pc + 2) L (.ref h.1.length :: s) (a_new h (2, n.toNatClampNeg)) r h') : a_Rn G l d M n0 z0 pc L (.int n :: s) h r h' := by
  intro p e st m args below meth c H locs ls C hR hL hS h0 h1 h2 h3 h4
  have hC := C
  obtain ⟨hx, hb, -, -, hts, hown, -, -, hK, -, hb0⟩ := C
  refine va_newa (atype := .boolean) (ty := .boolean) (a0 := (n.toNatClampNeg, .inl fun _ => 0)) hx hb (hts _ a_t_arr.2.2) rfl hK hR.2.2 a_wsD hS (fun q hq => Nat.le_trans hb0 hq) (fun _ => rfl) hn.1 rfl (by show n.toNatClampNeg * 1 ≤ 536870912; omega) (by show h.1.length - n0 + 1 ≤ h'.1.length - n0; omega) (by show a_sz h.1 - z0 + _ ≤ a_sz h'.1 - z0; omega) hd fun q cA H1 hK1 hP1 hD1 hS1 => ?_
  have ec := a_tys_new hK1 (t0 := 2) rfl
  subst ec
  exact W.sized fun hz => a_born (q := (2, n.toNatClampNeg)) (by rw [a_el2 a_new_at]; simp [a_new]) hlim k hC (a_newq hD1 hP1 h0 h1 hz) hP1 hL hS1 h0 h1 h2
theorem a_o_newR {idx : Nat} {n : Int32} (hF : a_fok M.1.cls M.2.2.2.2.2.2) (hlk : a_lk M.2.2.2.2.2.2.2.2 idx = some 99) (hn : ¬ n < 0 ∧ n.toNatClampNeg ≤ 10000) (hlim : h.1.length + 1 ≤ 1000 ∧ h.1.length + 1 ≤ h'.1.length ∧ a_sz h.1 + n.toNatClampNeg ≤ a_sz h'.1) (hd : decode M.2.1 pc = .ok (.anewarray idx, 3)) (k : a_Rn G l d M n0 z0 (pc + 3) L (.ref h.1.length :: s) (a_new h (3, n.toNatClampNeg)) r h') : a_Rn G l d M n0 z0 pc L (.int n :: s) h r h' := by
  intro p e st m args below meth c H locs ls C hR hL hS h0 h1 h2 h3 h4
  have hC := C
  obtain ⟨hx, hb, -, -, hts, hown, -, -, hK, hX, hb0⟩ := C
  have hlink : Cond.classLink M.1.cls idx "NightCats$Text" ∈ a_tb := by
    rcases hF.2.2 _ (a_lk_mem hlk) with ⟨q, -⟩ | ⟨q, -⟩ | ⟨q, -⟩ | ⟨q, -⟩ | ⟨q, -⟩ | ⟨q, -⟩ | ⟨q, -⟩ | ⟨q, -⟩ | ⟨-, q⟩ | ⟨cc, rr, q, -⟩
    · cases q
    · cases q
    · cases q
    · cases q
    · cases q
    · cases q
    · cases q
    · cases q
    · exact q
    · exact absurd (show (99 : Nat) = 100 + cc from q) (by omega)
  refine va_newq (C := "NightCats$Text") hx hb hown (hts _ hlink) hX.2.1 hK hR.2.2 a_wsD hS (fun q hq => Nat.le_trans hb0 hq) hn.1 rfl (by omega) (by show h.1.length - n0 + 1 ≤ h'.1.length - n0; omega) (by show a_sz h.1 - z0 + _ ≤ a_sz h'.1 - z0; omega) hd fun q cA H1 hK1 hP1 hD1 hS1 => ?_
  have ec := a_tys_new hK1 (t0 := 3) rfl
  subst ec
  exact W.sized fun hz => a_born (q := (3, n.toNatClampNeg)) (by rw [a_el3 a_new_at]; simp [a_new]) hlim k hC (a_newq hD1 hP1 h0 h1 hz) hP1 hL hS1 h0 h1 h2
theorem a_o_newO {idx ci : Nat} {q : vw_C} (hF : a_fok M.1.cls M.2.2.2.2.2.2) (hlk : a_lk M.2.2.2.2.2.2.2.2 idx = some (100 + ci)) (hq : acl[ci]? = some q) (hlim : h.1.length + 1 ≤ 1000 ∧ h.1.length + 1 ≤ h'.1.length ∧ a_sz h.1 + q.2.2 ≤ a_sz h'.1) (hd : decode M.2.1 pc = .ok (.new idx, 3)) (k : a_Rn G l d M n0 z0 (pc + 3) L (.ref h.1.length :: S) (a_new h (ci + 4, q.2.2)) r h') : a_Rn G l d M n0 z0 pc L S h r h' := by
  intro p e st m args below meth c H locs ls C hR hL hS h0 h1 h2 h3 h4
  have hC := C
  obtain ⟨hx, hb, -, -, hts, hown, -, -, hK, hX, hb0⟩ := C
  have hlink : Cond.classLink M.1.cls idx q.1 ∈ a_tb := by
    rcases hF.2.2 _ (a_lk_mem hlk) with ⟨z, -⟩ | ⟨z, -⟩ | ⟨z, -⟩ | ⟨z, -⟩ | ⟨z, -⟩ | ⟨z, -⟩ | ⟨z, -⟩ | ⟨z, -⟩ | ⟨z, -⟩ | ⟨cc, rr, z, z1, z2⟩
    all_goals first
      | exact absurd (show 100 + ci = _ from z) (by omega)
      | (have e1 : 100 + ci = 100 + cc := z
         have e2 : ci = cc := by omega
         subst e2
         cases hq.symm.trans z1
         exact z2)
  obtain ⟨c1, c2, c3, c4, c5, c6⟩ := a_cok ci q hq
  refine va_new (ci := ci) (C := q.1) (T := q.2.1) (N := q.2.2) (fs := (List.range q.2.2).map (fun j => a_fv G (a_ty ci j) (a_new h (ci + 4, q.2.2)) h.1.length j)) hx hb hts c1 (a_ty ci) c2 hown (hts _ hlink) (hts _ c5) (hts _ c6) hK hR.2.2 a_wsD hS (fun q hq => Nat.le_trans hb0 hq) hq (fun j hj => ?_) (by show h.1.length - n0 + 1 ≤ h'.1.length - n0; omega) (by show a_sz h.1 - z0 + _ ≤ a_sz h'.1 - z0; omega) hd fun a H1 hP1 hD1 hS1 => ?_
  · unfold vp_V
    rw [List.getD_eq_getElem?_getD, List.getElem?_map, List.getElem?_range hj]
    simp only [Option.map_some, Option.getD_some]
    have hty := c2 j hj
    cases hc : a_ty ci j <;> simp [a_fv, a_new, defaultValue, va_rf] <;> first | exact absurd hc (a_ty_ne ci j).1 | exact absurd hc (a_ty_ne ci j).2
  · exact W.sized fun hz => a_born (q := (ci + 4, q.2.2)) (by rw [a_el4 a_new_at]) hlim k hC (a_newq hD1 hP1 h0 h1 hz) hP1 hL hS1 h0 h1 h2
/-- Object's constructor -/
theorem a_o_obj {idx o : Nat} (hF : a_fok M.1.cls M.2.2.2.2.2.2) (hlk : a_lk M.2.2.2.2.2.2.2.2 idx = some 7) (hr : a_cat s ≤ 8) (hd : decode M.2.1 pc = .ok (.invokespecial idx, 3)) (k : a_Rn G l d M n0 z0 (pc + 3) L s h r h') : a_Rn G l d M n0 z0 pc L (.ref o :: s) h r h' := by
  intro p e st m args below meth c H locs ls C hR hL hS h0 h1 h2 h3 h4
  have hk := k p e st m args below meth c H locs ls C hR hL hS h0 h1 h2 h3 h4
  obtain ⟨hx, hb, -, hml, hts, hown, -, -, hK, hX, hb0⟩ := C
  have hlink : Cond.methodLink M.1.cls idx Lib.objectInit ∈ a_tb := by
    rcases hF.2.2 _ (a_lk_mem hlk) with ⟨z, -⟩ | ⟨z, -⟩ | ⟨z, -⟩ | ⟨z, -⟩ | ⟨z, -⟩ | ⟨z, -⟩ | ⟨z, -⟩ | ⟨z, z1⟩ | ⟨z, -⟩ | ⟨cc, rr, z, -, -⟩
    all_goals first
      | exact z1
      | exact absurd (show 7 = _ from z) (by omega)
  exact W.objInit hx hb hown (hts _ hlink) (hts _ a_t_obj.1) (hts _ a_t_obj.2) rfl (by rw [hml]; exact hL.2.1) rfl hd (by show 1 ≤ d + 1; omega) (by show 2 * 0 + _ + 12 ≤ 60 * (d + 1); rw [a_cat_map]; omega) hk
theorem a_js_lk {own : String} {F : aF} (hF : a_fok own F) {idx f : Nat} (hlk : a_lk F.2.2 idx = some f) : (f = 0 → Cond.methodLink own idx Lib.Math.max.name ∈ a_tb) ∧ (f = 1 → Cond.methodLink own idx Lib.Math.min.name ∈ a_tb) ∧ (f = 2 → Cond.methodLink own idx Lib.Math.abs.name ∈ a_tb) ∧ (f = 3 → Cond.methodLink own idx Lib.MathLoose.max_long.x ∈ a_tb) ∧ (f = 4 → Cond.methodLink own idx Lib.MathLoose.min_long.x ∈ a_tb) ∧ (f = 5 → Cond.methodLink own idx Lib.MathLoose.abs_long.x ∈ a_tb) ∧ (f = 6 → Cond.methodLink own idx arraycopyName ∈ a_tb) := by
  rcases hF.2.2 _ (a_lk_mem hlk) with ⟨z, z1⟩ | ⟨z, z1⟩ | ⟨z, z1⟩ | ⟨z, z1⟩ | ⟨z, z1⟩ | ⟨z, z1⟩ | ⟨z, z1⟩ | ⟨z, z1⟩ | ⟨z, z1⟩ | ⟨cc, rr, z, z1, z2⟩
  all_goals
    have z3 : f = _ := z
    refine ⟨?_, ?_, ?_, ?_, ?_, ?_, ?_⟩ <;> intro w <;> first | exact z1 | exact absurd (z3.symm.trans w) (by omega)
theorem a_o_max {idx : Nat} {x y : Int32} (hF : a_fok M.1.cls M.2.2.2.2.2.2) (hlk : a_lk M.2.2.2.2.2.2.2.2 idx = some 0) (hr : a_cat s ≤ 8) (hd : decode M.2.1 pc = .ok (.invokestatic idx, 3)) (k : a_Rn G l d M n0 z0 (pc + 3) L (.int (a_max x y) :: s) h r h') : a_Rn G l d M n0 z0 pc L (.int y :: .int x :: s) h r h' := by
  intro p e st m args below meth c H locs ls C hR hL hS h0 h1 h2 h3 h4
  have hk := k p e st m args below meth c H locs ls C hR hL hS h0 h1 h2 h3 h4
  obtain ⟨hx, hb, -, hml, hts, hown, -, -, hK, hX, hb0⟩ := C
  exact va_mmax hx hb (hml.trans hL.2.1.symm) hown (hts _ ((a_js_lk hF hlk).1 rfl)) (hts _ a_t_max.1) (hts _ a_t_max.2.1) (hts _ a_t_max.2.2) (by show 1 ≤ d + 1; omega) (by show _ + 13 ≤ 60 * (d + 1); rw [a_cat_map]; omega) (by show _ ≤ h'.1.length - n0; omega) (by show _ ≤ a_sz h'.1 - z0; omega) hd hk
theorem a_o_min {idx : Nat} {x y : Int32} (hF : a_fok M.1.cls M.2.2.2.2.2.2) (hlk : a_lk M.2.2.2.2.2.2.2.2 idx = some 1) (hr : a_cat s ≤ 8) (hd : decode M.2.1 pc = .ok (.invokestatic idx, 3)) (k : a_Rn G l d M n0 z0 (pc + 3) L (.int (a_min x y) :: s) h r h') : a_Rn G l d M n0 z0 pc L (.int y :: .int x :: s) h r h' := by
  intro p e st m args below meth c H locs ls C hR hL hS h0 h1 h2 h3 h4
  have hk := k p e st m args below meth c H locs ls C hR hL hS h0 h1 h2 h3 h4
  obtain ⟨hx, hb, -, hml, hts, hown, -, -, hK, hX, hb0⟩ := C
  exact va_mmin hx hb (hml.trans hL.2.1.symm) hown (hts _ ((a_js_lk hF hlk).2.1 rfl)) (hts _ a_t_min.1) (hts _ a_t_max.2.1) (hts _ a_t_min.2) (by show 1 ≤ d + 1; omega) (by show _ + 13 ≤ 60 * (d + 1); rw [a_cat_map]; omega) (by show _ ≤ h'.1.length - n0; omega) (by show _ ≤ a_sz h'.1 - z0; omega) hd hk
theorem a_o_abs {idx : Nat} {x : Int32} (hF : a_fok M.1.cls M.2.2.2.2.2.2) (hlk : a_lk M.2.2.2.2.2.2.2.2 idx = some 2) (hr : a_cat s ≤ 8) (hd : decode M.2.1 pc = .ok (.invokestatic idx, 3)) (k : a_Rn G l d M n0 z0 (pc + 3) L (.int (a_abs x) :: s) h r h') : a_Rn G l d M n0 z0 pc L (.int x :: s) h r h' := by
  intro p e st m args below meth c H locs ls C hR hL hS h0 h1 h2 h3 h4
  have hk := k p e st m args below meth c H locs ls C hR hL hS h0 h1 h2 h3 h4
  obtain ⟨hx, hb, -, hml, hts, hown, -, -, hK, hX, hb0⟩ := C
  exact va_mabs hx hb (hml.trans hL.2.1.symm) hown (hts _ ((a_js_lk hF hlk).2.2.1 rfl)) (hts _ a_t_abs.1) (hts _ a_t_max.2.1) (hts _ a_t_abs.2) (by show 1 ≤ d + 1; omega) (by show _ + 13 ≤ 60 * (d + 1); rw [a_cat_map]; omega) (by show _ ≤ h'.1.length - n0; omega) (by show _ ≤ a_sz h'.1 - z0; omega) hd hk
theorem a_o_maxJ {idx : Nat} {x y : Int64} (hF : a_fok M.1.cls M.2.2.2.2.2.2) (hlk : a_lk M.2.2.2.2.2.2.2.2 idx = some 3) (hr : a_cat s ≤ 8) (hd : decode M.2.1 pc = .ok (.invokestatic idx, 3)) (k : a_Rn G l d M n0 z0 (pc + 3) L (.long (a_maxJ x y) :: s) h r h') : a_Rn G l d M n0 z0 pc L (.long y :: .long x :: s) h r h' := by
  intro p e st m args below meth c H locs ls C hR hL hS h0 h1 h2 h3 h4
  have hk := k p e st m args below meth c H locs ls C hR hL hS h0 h1 h2 h3 h4
  obtain ⟨hx, hb, -, hml, hts, hown, -, -, hK, hX, hb0⟩ := C
  exact va_mmax_long hx hb (hml.trans hL.2.1.symm) hown (hts _ ((a_js_lk hF hlk).2.2.2.1 rfl)) (hts _ a_t_maxJ.1) (hts _ a_t_max.2.1) (hts _ a_t_maxJ.2) (by show 1 ≤ d + 1; omega) (by show _ + 15 ≤ 60 * (d + 1); rw [a_cat_map]; omega) (by show _ ≤ h'.1.length - n0; omega) (by show _ ≤ a_sz h'.1 - z0; omega) hd hk
theorem a_o_minJ {idx : Nat} {x y : Int64} (hF : a_fok M.1.cls M.2.2.2.2.2.2) (hlk : a_lk M.2.2.2.2.2.2.2.2 idx = some 4) (hr : a_cat s ≤ 8) (hd : decode M.2.1 pc = .ok (.invokestatic idx, 3)) (k : a_Rn G l d M n0 z0 (pc + 3) L (.long (a_minJ x y) :: s) h r h') : a_Rn G l d M n0 z0 pc L (.long y :: .long x :: s) h r h' := by
  intro p e st m args below meth c H locs ls C hR hL hS h0 h1 h2 h3 h4
  have hk := k p e st m args below meth c H locs ls C hR hL hS h0 h1 h2 h3 h4
  obtain ⟨hx, hb, -, hml, hts, hown, -, -, hK, hX, hb0⟩ := C
  exact va_mmin_long hx hb (hml.trans hL.2.1.symm) hown (hts _ ((a_js_lk hF hlk).2.2.2.2.1 rfl)) (hts _ a_t_minJ.1) (hts _ a_t_max.2.1) (hts _ a_t_minJ.2) (by show 1 ≤ d + 1; omega) (by show _ + 15 ≤ 60 * (d + 1); rw [a_cat_map]; omega) (by show _ ≤ h'.1.length - n0; omega) (by show _ ≤ a_sz h'.1 - z0; omega) hd hk
theorem a_o_absJ {idx : Nat} {x : Int64} (hF : a_fok M.1.cls M.2.2.2.2.2.2) (hlk : a_lk M.2.2.2.2.2.2.2.2 idx = some 5) (hr : a_cat s ≤ 8) (hd : decode M.2.1 pc = .ok (.invokestatic idx, 3)) (k : a_Rn G l d M n0 z0 (pc + 3) L (.long (a_absJ x) :: s) h r h') : a_Rn G l d M n0 z0 pc L (.long x :: s) h r h' := by
  intro p e st m args below meth c H locs ls C hR hL hS h0 h1 h2 h3 h4
  have hk := k p e st m args below meth c H locs ls C hR hL hS h0 h1 h2 h3 h4
  obtain ⟨hx, hb, -, hml, hts, hown, -, -, hK, hX, hb0⟩ := C
  exact va_mabs_long hx hb (hml.trans hL.2.1.symm) hown (hts _ ((a_js_lk hF hlk).2.2.2.2.2.1 rfl)) (hts _ a_t_absJ.1) (hts _ a_t_max.2.1) (hts _ a_t_absJ.2) (by show 1 ≤ d + 1; omega) (by show _ + 13 ≤ 60 * (d + 1); rw [a_cat_map]; omega) (by show _ ≤ h'.1.length - n0; omega) (by show _ ≤ a_sz h'.1 - z0; omega) hd hk
theorem a_o_copy {idx o0 o1 m0 m1 : Nat} {n dp sp : Int32} (hF : a_fok M.1.cls M.2.2.2.2.2.2) (hlk : a_lk M.2.2.2.2.2.2.2.2 idx = some 6) (hr : a_cat s ≤ 8) (ho0 : h.1[o0]? = some (0, m0)) (ho1 : h.1[o1]? = some (0, m1)) (hc : ¬ sp < 0 ∧ ¬ dp < 0 ∧ ¬ n < 0 ∧ sp.toNatClampNeg + n.toNatClampNeg ≤ m0 ∧ dp.toNatClampNeg + n.toNatClampNeg ≤ m1)
    (hd : decode M.2.1 pc = .ok (.invokestatic idx, 3)) (k : a_Rn G l d M n0 z0 (pc + 3) L s (a_uA h o1 (va_cpy (h.2.2.1 o0) (h.2.2.1 o1) sp.toNatClampNeg dp.toNatClampNeg n.toNatClampNeg)) r h') : a_Rn G l d M n0 z0 pc L (.int n :: .int dp :: .ref o1 :: .int sp :: .ref o0 :: s) h r h' := by
  intro p e st m args below meth c H locs ls C hR hL hS h0 h1 h2 h3 h4
  have hC := C
  obtain ⟨hx, hb, -, hml, hts, hown, -, -, hK, hX, hb0⟩ := C
  show W p l e _ st m args below meth c H locs _ _ _ (F0 m pc ls (.int n :: .int dp :: .ref (a_ad G o1) :: .int sp :: .ref (a_ad G o0) :: s.map (a_v G)))
  rw [a_ad_in hR (a_lt ho0), a_ad_in hR (a_lt ho1)]
  refine va_copyi hx hb (hml.trans hL.2.1.symm) hown (hts _ ((a_js_lk hF hlk).2.2.2.2.2.2 rfl)) (hts _ a_t_copy.1) (hts _ a_t_copy.2.1) (hts _ a_t_copy.2.2) hK hR.2.2 a_wsD hS o0 o1 0 0 (by rw [a_ws_at (a_lt ho0), a_el0 ho0]) (by rw [a_ws_at (a_lt ho1), a_el0 ho1]) rfl rfl rfl hc.1 hc.2.1 hc.2.2.1 hc.2.2.2.1 hc.2.2.2.2 (fun i _ => rfl) (by show 1 ≤ d + 1; omega) (by show _ + (7 + 11) ≤ 60 * (d + 1); rw [a_cat_map]; omega) hd fun H1 locs1 hP1 _ hS1 => ?_
  rw [a_ws_set (h := h) (h1 := a_uA h o1 (va_cpy (h.2.2.1 o0) (h.2.2.1 o1) sp.toNatClampNeg dp.toNatClampNeg n.toNatClampNeg)) rfl (by rw [a_el0 (h := a_uA h o1 (va_cpy (h.2.2.1 o0) (h.2.2.1 o1) sp.toNatClampNeg dp.toNatClampNeg n.toNatClampNeg)) ho1]; simp [a_uA]) (fun k hk => a_el_eq rfl rfl (if_neg hk) rfl)] at hP1
  exact k.go hC hR.1 hP1 hL hS1 h0 h1 h2 h3 h4
end AN
