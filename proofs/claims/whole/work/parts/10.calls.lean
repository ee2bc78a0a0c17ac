/-! ===== branches, ends, calls ===== -/
section AT
variable {G : aG} {l : Launch} {d : Nat} {M : aM} {n0 z0 pc : Nat} {L : aL} {S s : List Value} {h h' : aH} {r : Option Value}
theorem a_Rn.icmp {co : ClassFile.Cond} {off : Int} {tgt : Nat} {x y : Int32} (hd : decode M.2.1 pc = .ok (.if_icmp co off, 3)) (ht : (pc : Int) + off = (tgt : Int)) (kt : a_cc co x y → a_Rn G l d M n0 z0 tgt L s h r h') (kf : ¬ a_cc co x y → a_Rn G l d M n0 z0 (pc + 3) L s h r h') : a_Rn G l d M n0 z0 pc L (.int y :: .int x :: s) h r h' := by
  intro p e st m args below meth c H locs ls C hR hL hS h0 h1 h2 h3 h4
  cases co
  · exact lv_icmp_eq C.1 C.2.1 hd ht (fun q => kt q p e st m args below meth c H locs ls C hR hL hS h0 h1 h2 h3 h4) (fun q => kf q p e st m args below meth c H locs ls C hR hL hS h0 h1 h2 h3 h4)
  · exact lv_icmp_ne C.1 C.2.1 hd ht (fun q => kt q p e st m args below meth c H locs ls C hR hL hS h0 h1 h2 h3 h4) (fun q => kf (fun z => z q) p e st m args below meth c H locs ls C hR hL hS h0 h1 h2 h3 h4)
  · exact lv_icmp_lt C.1 C.2.1 hd ht (fun q => kt q p e st m args below meth c H locs ls C hR hL hS h0 h1 h2 h3 h4) (fun q => kf q p e st m args below meth c H locs ls C hR hL hS h0 h1 h2 h3 h4)
  · exact lv_icmp_ge C.1 C.2.1 hd ht (fun q => kt q p e st m args below meth c H locs ls C hR hL hS h0 h1 h2 h3 h4) (fun q => kf q p e st m args below meth c H locs ls C hR hL hS h0 h1 h2 h3 h4)
  · exact lv_icmp_gt C.1 C.2.1 hd ht (fun q => kt q p e st m args below meth c H locs ls C hR hL hS h0 h1 h2 h3 h4) (fun q => kf q p e st m args below meth c H locs ls C hR hL hS h0 h1 h2 h3 h4)
  · exact lv_icmp_le C.1 C.2.1 hd ht (fun q => kt q p e st m args below meth c H locs ls C hR hL hS h0 h1 h2 h3 h4) (fun q => kf q p e st m args below meth c H locs ls C hR hL hS h0 h1 h2 h3 h4)
theorem a_Rn.ifc {co : ClassFile.Cond} {off : Int} {tgt : Nat} {x : Int32} (hd : decode M.2.1 pc = .ok (.ifCond co off, 3)) (ht : (pc : Int) + off = (tgt : Int)) (kt : a_cc co x 0 → a_Rn G l d M n0 z0 tgt L s h r h') (kf : ¬ a_cc co x 0 → a_Rn G l d M n0 z0 (pc + 3) L s h r h') : a_Rn G l d M n0 z0 pc L (.int x :: s) h r h' := by
  intro p e st m args below meth c H locs ls C hR hL hS h0 h1 h2 h3 h4
  cases co
  · exact lv_if_eq C.1 C.2.1 hd ht (fun q => kt q p e st m args below meth c H locs ls C hR hL hS h0 h1 h2 h3 h4) (fun q => kf q p e st m args below meth c H locs ls C hR hL hS h0 h1 h2 h3 h4)
  · exact lv_if_ne C.1 C.2.1 hd ht (fun q => kt q p e st m args below meth c H locs ls C hR hL hS h0 h1 h2 h3 h4) (fun q => kf (fun z => z q) p e st m args below meth c H locs ls C hR hL hS h0 h1 h2 h3 h4)
  · exact lv_if_lt C.1 C.2.1 hd ht (fun q => kt q p e st m args below meth c H locs ls C hR hL hS h0 h1 h2 h3 h4) (fun q => kf q p e st m args below meth c H locs ls C hR hL hS h0 h1 h2 h3 h4)
  · exact lv_if_ge C.1 C.2.1 hd ht (fun q => kt q p e st m args below meth c H locs ls C hR hL hS h0 h1 h2 h3 h4) (fun q => kf q p e st m args below meth c H locs ls C hR hL hS h0 h1 h2 h3 h4)
  · exact lv_if_gt C.1 C.2.1 hd ht (fun q => kt q p e st m args below meth c H locs ls C hR hL hS h0 h1 h2 h3 h4) (fun q => kf q p e st m args below meth c H locs ls C hR hL hS h0 h1 h2 h3 h4)
  · exact lv_if_le C.1 C.2.1 hd ht (fun q => kt q p e st m args below meth c H locs ls C hR hL hS h0 h1 h2 h3 h4) (fun q => kf q p e st m args below meth c H locs ls C hR hL hS h0 h1 h2 h3 h4)
theorem a_Rn.goto {off : Int} {tgt : Nat} (hd : decode M.2.1 pc = .ok (.goto off, 3)) (ht : (pc : Int) + off = (tgt : Int)) (k : a_Rn G l d M n0 z0 tgt L S h r h') : a_Rn G l d M n0 z0 pc L S h r h' :=
  fun p e st m args below meth c H locs ls C hR hL hS h0 h1 h2 h3 h4 => lv_goto C.1 C.2.1 hd ht (k p e st m args below meth c H locs ls C hR hL hS h0 h1 h2 h3 h4)
theorem a_Rn.tsw {dflt lo hi : Int} {offs : Array Int} {len : Nat} {x : Int32} {tgt : Nat} (hd : decode M.2.1 pc = .ok (.tableswitch dflt lo hi offs, len)) (hx : (x.toInt < lo ∨ hi < x.toInt) ∧ (pc : Int) + dflt = (tgt : Int) ∨ (¬ x.toInt < lo ∧ ¬ hi < x.toInt ∧ ∃ off, offs[(x.toInt - lo).toNat]? = some off ∧ (pc : Int) + off = (tgt : Int)))
    (k : a_Rn G l d M n0 z0 tgt L s h r h') : a_Rn G l d M n0 z0 pc L (.int x :: s) h r h' := by
  intro p e st m args below meth c H locs ls C hR hL hS h0 h1 h2 h3 h4
  have hk := k p e st m args below meth c H locs ls C hR hL hS h0 h1 h2 h3 h4
  rcases hx with ⟨q1, q2⟩ | ⟨q1, q2, off, q3, q4⟩
  · exact lv_tableOut C.1 C.2.1 hd q1 q2 hk
  · exact lv_tableIn C.1 C.2.1 hd q1 q2 q3 q4 hk
theorem a_Rn.lsw {dflt : Int} {ps : Array (Int × Int)} {len : Nat} {x : Int32} {off : Int} {tgt : Nat} (hd : decode M.2.1 pc = .ok (.lookupswitch dflt ps, len)) (hp : (ps.toList.zip (ps.toList.drop 1)).all (fun (a, next) => a.1 < next.1) = true) (ho : Op.lookupswitch.offset ps.toList dflt x.toInt = off) (ht : (pc : Int) + off = (tgt : Int))
    (k : a_Rn G l d M n0 z0 tgt L s h r h') : a_Rn G l d M n0 z0 pc L (.int x :: s) h r h' :=
  fun p e st m args below meth c H locs ls C hR hL hS h0 h1 h2 h3 h4 => lv_lookup C.1 C.2.1 hd hp ho ht (k p e st m args below meth c H locs ls C hR hL hS h0 h1 h2 h3 h4)
theorem a_qok {st t : State} {a : Array Value} {H : Heap} {locs : List Loc} (hR : a_Rp G h H) (hS : va_S (fun q => G.1 ≤ q) st.heap H locs) (ht : t.heap = H) : a_Q G r h a st (.returned (r.map (a_v G))) t := ⟨rfl, by rw [ht]; exact hR, hS.F ht⟩
theorem a_Rn.iret {v : Int32} (hr : M.2.2.2.1 = some .int) (hd : decode M.2.1 pc = .ok (.ireturn, 1)) : a_Rn G l d M n0 z0 pc L [.int v] h (some (.int v)) h :=
  fun p e st m args below meth c H locs ls C hR hL hS h0 h1 h2 h3 h4 => W.iret C.1 C.2.1 (C.2.2.1.trans hr) (fun t ht _ => a_qok (r := some (.int v)) hR hS ht) hS.2.2 hd C.2.2.2.2.2.2.1
theorem a_Rn.zret {v : Int32} {ty : FieldType} (hr : M.2.2.2.1 = some ty) (hn : narrow ty (.int v) = .int v) (hd : decode M.2.1 pc = .ok (.ireturn, 1)) : a_Rn G l d M n0 z0 pc L [.int v] h (some (.int v)) h :=
  fun p e st m args below meth c H locs ls C hR hL hS h0 h1 h2 h3 h4 => W.zret C.1 C.2.1 (C.2.2.1.trans hr) hn (fun t ht _ => a_qok (r := some (.int v)) hR hS ht) hS.2.2 hd C.2.2.2.2.2.2.1
theorem a_Rn.vret (hr : M.2.2.2.1 = none) (hd : decode M.2.1 pc = .ok (.return_, 1)) : a_Rn G l d M n0 z0 pc L [] h none h :=
  fun p e st m args below meth c H locs ls C hR hL hS h0 h1 h2 h3 h4 => W.vret C.1 C.2.1 (C.2.2.1.trans hr) (fun t ht _ => a_qok (r := none) hR hS ht) hS.2.2 hd C.2.2.2.2.2.2.1
theorem a_Rn.lret {v : Int64} (hr : M.2.2.2.1 = some .long) (hd : decode M.2.1 pc = .ok (.lreturn, 1)) : a_Rn G l d M n0 z0 pc L [.long v] h (some (.long v)) h :=
  fun p e st m args below meth c H locs ls C hR hL hS h0 h1 h2 h3 h4 => W.lret C.1 C.2.1 (C.2.2.1.trans hr) (fun t ht _ => a_qok (r := some (.long v)) hR hS ht) hS.2.2 hd C.2.2.2.2.2.2.1
theorem a_Rn.aret {v : Nat} {n : String} (hr : M.2.2.2.1 = some (.object n)) (hd : decode M.2.1 pc = .ok (.areturn, 1)) : a_Rn G l d M n0 z0 pc L [.ref v] h (some (.ref v)) h :=
  fun p e st m args below meth c H locs ls C hR hL hS h0 h1 h2 h3 h4 => W.aret C.1 C.2.1 (C.2.2.1.trans hr) (Or.inl ⟨n, rfl⟩) (Or.inr ⟨_, rfl⟩) (fun t ht _ => a_qok (r := some (.ref v)) hR hS ht) hS.2.2 hd C.2.2.2.2.2.2.1
/-- behind a call -/
theorem a_after {p : Program} {e : Env} {st : State} {m : MethodId} {args : Array Value} {below : List Frame} {meth : Method} {c : Code} {H : Heap} {locs : List Loc} {ls : Array Slot} {S0 rest : List Value} {r1 : Option Value} {H1 : aH} {a : Array Value}
    (C : a_cx G M p st m args meth c) (hR : a_Rp G h H) (hL : a_LH G ls M.2.2.1 L) (hS : va_S (fun q => G.1 ≤ q) st.heap H locs) (h0 : st.heap.size = G.1 + n0) (h1 : n0 ≤ h.1.length) (h2 : z0 ≤ a_sz h.1)
    (hle : h.1.length ≤ H1.1.length ∧ a_sz h.1 ≤ a_sz H1.1 ∧ H1.1.length ≤ h'.1.length ∧ a_sz H1.1 ≤ a_sz h'.1)
    (hrun : va_Run p l e (a_rm d (h'.1.length - n0) (a_sz h'.1 - z0)) st m args below meth c H locs (h.1.length - n0) (a_sz h.1 - z0) (H1.1.length - h.1.length) (a_sz H1.1 - a_sz h.1) (F0 m pc ls S0) (rest.map (a_v G)) (a_Q G r1 H1 a) (fun q => G.1 ≤ q))
    (k : a_Rn G l d M n0 z0 (pc + 3) L (r1.toList ++ rest) H1 r h') :
    W p l e (a_rm d (h'.1.length - n0) (a_sz h'.1 - z0)) st m args below meth c H locs (h.1.length - n0) (a_sz h.1 - z0) (MQ below (a_Q G r h') args st (h'.1.length - n0) (a_sz h'.1 - z0) (fun q => G.1 ≤ q)) (F0 m pc ls S0) := by
  intro T hT X
  obtain ⟨v, st₀, t, T', L2, e0, X', hL2, e1, e2, ⟨q1, q2, q3⟩, hgo⟩ := hrun T hT X
  cases q1
  have hS2 : va_S (fun q => G.1 ≤ q) st.heap T'.heap (locs ++ L2) := by
    refine ⟨Nat.le_trans hS.1 (by rw [e1, ← e0]; exact q3.1), fun q g1 g2 => ?_, fun q hq => ?_⟩
    · rw [e1, q3.2 q (by rw [e0]; exact Nat.lt_of_lt_of_le g1 hS.1) g2, e0]
      exact hS.2.1 q g1 g2
    · rcases List.mem_append.mp hq with g | g
      · exact hS.2.2 q g
      · exact hL2 q g
  have h5 := k.go (e := e) (below := below) C q2.1 (by rw [e1]; exact q2.2.2) hL hS2 h0 (by omega) (by omega) hle.2.2.1 hle.2.2.2
  rw [show h.1.length - n0 + (H1.1.length - h.1.length) = H1.1.length - n0 by omega, show a_sz h.1 - z0 + (a_sz H1.1 - a_sz h.1) = a_sz H1.1 - z0 by omega] at X'
  obtain ⟨t2, a1, b1⟩ := h5 T' rfl X'
  refine ⟨t2, hgo t2 ?_, b1⟩
  have e9 : (r1.map (a_v G)).toList ++ rest.map (a_v G) = (r1.toList ++ rest).map (a_v G) := by
    cases r1 <;> simp
  show Steps p.tables e below (T'.setTop (F0 m (pc + 3) ls ((r1.map (a_v G)).toList ++ rest.map (a_v G)))) t2
  rw [e9]
  exact a1
/-- the callee: its words, by its kind -/
def a_mW (M : aM) (n : Nat) : Prop := Cond.code M.1 M.2.1 M.2.2.1 M.2.2.2.1 ∈ a_tb ∧ Cond.initialized M.1.cls ∈ a_tb ∧ (M.1.cls ≠ "java/lang/invoke/MethodHandle" ∧ M.1.cls ≠ "java/lang/invoke/VarHandle" ∧ (parseMethodDescriptor M.1.desc).map (fun d => d.parameters.length) = some n) ∧ M.2.2.1 ≤ 40
theorem a_blind {as : List Value} : FrameBlind (va_Pc (as.map (a_v G)) (fun U => a_Rp G h U.heap ∧ va_K G.2.1 acl (a_tys G) U ∧ a_X G U U.heap ∧ G.1 ≤ U.heap.size)) := by
  intro a U g mk q
  obtain ⟨q0, q1, q2, q3, q4⟩ := q
  exact ⟨q0, q1, va_K.moved (u := U) (U := U.calling g mk a) (Vm.Alike.refl U.vm) q2, a_X.same (U := U.calling g mk a) q3 rfl, q4⟩
theorem a_pre {st U : State} {H : Heap} {locs : List Loc} {as : List Value} (hK : va_K G.2.1 acl (a_tys G) st) (hX : a_X G st st.heap) (hb : G.1 ≤ st.heap.size) (hR : a_Rp G h H) (hS : va_S (fun q => G.1 ≤ q) st.heap H locs) (hU : U.heap = H) (hW : st.WarmedH U.vm) : va_Pc (as.map (a_v G)) (fun U => a_Rp G h U.heap ∧ va_K G.2.1 acl (a_tys G) U ∧ a_X G U U.heap ∧ G.1 ≤ U.heap.size) (as.map (a_v G)).toArray U :=
  ⟨rfl, by rw [hU]; exact hR, va_K.moved hW.alike hK, hX.go hW (fun q g1 g2 => by rw [hU]; exact hS.2.1 q g1 g2), by rw [hU]; exact Nat.le_trans hb hS.1⟩
theorem a_goodIn {y : Cond} (hy : y ∈ a_tb) : GoodIn a_tb (y :: a_tb) := by
  intro w hw
  rcases List.mem_cons.mp hw with rfl | hw
  · exact ⟨hy, a_tb_good _ hy⟩
  · exact ⟨hw, a_tb_good _ hw⟩
theorem a_Rn.callV {M' : aM} {idx o ci n nA d' : Nat} {As rest : List Value} {r1 : Option Value} {H1 : aH} {q : vw_C} (ev : a_Ev G l d' M' (.ref o :: As) h r1 H1) (hd : decode M.2.1 pc = .ok (.invokevirtual idx, 3)) (hlk : Cond.methodLink M.1.cls idx M'.1 ∈ a_tb) (hm : a_mW M' nA ∧ Cond.instanceMethod M'.1 ∈ a_tb ∧ Cond.selects M'.1.cls M'.1 M'.1 ∈ a_tb)
    (ho : h.1[o]? = some (ci + 4, n)) (hq : acl[ci]? = some q) (hcl : q.1 = M'.1.cls) (hn : As.length = nA) (hdd : d' + 1 ≤ d) (hcat : a_cat rest ≤ 8) (hle : h.1.length ≤ H1.1.length ∧ a_sz h.1 ≤ a_sz H1.1 ∧ H1.1.length ≤ h'.1.length ∧ a_sz H1.1 ≤ a_sz h'.1)
    (hSt : S = As.reverse ++ .ref o :: rest) (k : a_Rn G l d M n0 z0 (pc + 3) L (r1.toList ++ rest) H1 r h') : a_Rn G l d M n0 z0 pc L S h r h' := by
  intro p e st m args below meth c H locs ls C hR hL hS h0 h1 h2 h3 h4
  have hC := C
  obtain ⟨hx, hb, -, hml, hts, hown, -, -, hK, hX, hb0⟩ := C
  obtain ⟨⟨w1, w2, w3, w4⟩, w5, w6⟩ := hm
  refine a_after (S0 := S.map (a_v G)) (a := (Value.ref (a_ad G o) :: As.map (a_v G)).toArray) hC hR hL hS h0 h1 h2 hle ?_ k
  have hg := a_goodIn w1
  have e1 : S.map (a_v G) = (As.map (a_v G)).reverse ++ .ref (a_ad G o) :: rest.map (a_v G) := by
    rw [hSt, List.map_append, List.map_reverse, List.map_cons]
    rfl
  have hrw := a_ad_in hR (a_lt ho)
  rw [e1]
  refine va_runV (C := M'.1.cls) (As := As.map (a_v G)) (n := nA) ⟨hx, hb, hml, hown, hts⟩ ev ⟨⟨rfl, rfl, by show d' + 1 + 1 ≤ d + 1; omega, by show 8 + (M'.2.2.1 + 11) + 60 * (d' + 1) ≤ 60 * (d + 1); omega, pay_in hts hg, List.mem_cons_self, hts _ w1, hts _ w2, ⟨w3.1, w3.2.1⟩, fun sig hs => ?_, hts _ hlk⟩, hts _ w5, hts _ w6⟩ ⟨a_blind, ?_, fun U hU hW => ?_⟩ rfl (by simpa using hn) hL.2.1 rfl (by show 2 * 0 + _ ≤ 8; rw [a_cat_map]; omega) hd ⟨?_, ?_⟩
  · have h9 := w3.2.2
    rw [hs] at h9
    exact (Option.some.inj h9).symm
  · rw [hrw, ← hcl]
    exact va_recv hK hR.2.2 hq (by rw [a_ws_at (a_lt ho), a_el4 ho])
  · have := a_pre (as := .ref o :: As) hK hX hb0 hR hS hU hW
    exact this
  · show h.1.length - n0 + _ ≤ h'.1.length - n0
    omega
  · show a_sz h.1 - z0 + _ ≤ a_sz h'.1 - z0
    omega
theorem a_Rn.callVN {M' : aM} {idx o ci n nA d' : Nat} {As rest : List Value} {r1 : Option Value} {H1 : aH} {q : vw_C} (ev : a_Ev G l d' M' (.ref o :: As) h r1 H1) (hd : decode M.2.1 pc = .ok (.invokevirtual idx, 3)) (hlk : Cond.methodLinkNest M.1.cls idx M'.1 "NightCats" ∈ a_nst) (hm : a_mW M' nA ∧ Cond.instanceMethod M'.1 ∈ a_tb ∧ Cond.selects M'.1.cls M'.1 M'.1 ∈ a_tb)
    (ho : h.1[o]? = some (ci + 4, n)) (hq : acl[ci]? = some q) (hcl : q.1 = M'.1.cls) (hn : As.length = nA) (hdd : d' + 1 ≤ d) (hcat : a_cat rest ≤ 8) (hle : h.1.length ≤ H1.1.length ∧ a_sz h.1 ≤ a_sz H1.1 ∧ H1.1.length ≤ h'.1.length ∧ a_sz H1.1 ≤ a_sz h'.1)
    (hSt : S = As.reverse ++ .ref o :: rest) (k : a_Rn G l d M n0 z0 (pc + 3) L (r1.toList ++ rest) H1 r h') : a_Rn G l d M n0 z0 pc L S h r h' := by
  intro p e st m args below meth c H locs ls C hR hL hS h0 h1 h2 h3 h4
  have hC := C
  obtain ⟨hx, hb, -, hml, hts, hown, -, -, hK, hX, hb0⟩ := C
  obtain ⟨⟨w1, w2, w3, w4⟩, w5, w6⟩ := hm
  refine a_after (S0 := S.map (a_v G)) (a := (Value.ref (a_ad G o) :: As.map (a_v G)).toArray) hC hR hL hS h0 h1 h2 hle ?_ k
  have hg := a_goodIn w1
  have e1 : S.map (a_v G) = (As.map (a_v G)).reverse ++ .ref (a_ad G o) :: rest.map (a_v G) := by
    rw [hSt, List.map_append, List.map_reverse, List.map_cons]
    rfl
  have hrw := a_ad_in hR (a_lt ho)
  rw [e1]
  refine va_runVN (host := "NightCats") (C := M'.1.cls) (As := As.map (a_v G)) (n := nA) ⟨hx, hb, hml, hown, hts⟩ ev ⟨⟨⟨rfl, rfl, by show d' + 1 + 1 ≤ d + 1; omega, by show 8 + (M'.2.2.1 + 11) + 60 * (d' + 1) ≤ 60 * (d + 1); omega, pay_in hts hg, List.mem_cons_self⟩, hts _ w1, hts _ w2, ⟨w3.1, w3.2.1⟩, fun sig hs => ?_, va_Nw.use rfl (hX.1 _ hlk)⟩, hts _ w5, hts _ w6⟩ ⟨a_blind, ?_, fun U hU hW => ?_⟩ rfl (by simpa using hn) hL.2.1 rfl (by show 2 * 0 + _ ≤ 8; rw [a_cat_map]; omega) hd ⟨?_, ?_⟩
  · have h9 := w3.2.2
    rw [hs] at h9
    exact (Option.some.inj h9).symm
  · rw [hrw, ← hcl]
    exact va_recv hK hR.2.2 hq (by rw [a_ws_at (a_lt ho), a_el4 ho])
  · have := a_pre (as := .ref o :: As) hK hX hb0 hR hS hU hW
    exact this
  · show h.1.length - n0 + _ ≤ h'.1.length - n0
    omega
  · show a_sz h.1 - z0 + _ ≤ a_sz h'.1 - z0
    omega
theorem a_Rn.callS {M' : aM} {idx nA d' : Nat} {As rest : List Value} {r1 : Option Value} {H1 : aH} (ev : a_Ev G l d' M' As h r1 H1) (hd : decode M.2.1 pc = .ok (.invokestatic idx, 3)) (hlk : Cond.methodLink M.1.cls idx M'.1 ∈ a_tb) (hm : a_mW M' nA ∧ Cond.static M'.1 ∈ a_tb)
    (hn : As.length = nA) (hdd : d' + 1 ≤ d) (hcat : a_cat rest ≤ 8) (hle : h.1.length ≤ H1.1.length ∧ a_sz h.1 ≤ a_sz H1.1 ∧ H1.1.length ≤ h'.1.length ∧ a_sz H1.1 ≤ a_sz h'.1)
    (hSt : S = As.reverse ++ rest) (k : a_Rn G l d M n0 z0 (pc + 3) L (r1.toList ++ rest) H1 r h') : a_Rn G l d M n0 z0 pc L S h r h' := by
  intro p e st m args below meth c H locs ls C hR hL hS h0 h1 h2 h3 h4
  have hC := C
  obtain ⟨hx, hb, -, hml, hts, hown, -, -, hK, hX, hb0⟩ := C
  obtain ⟨⟨w1, w2, w3, w4⟩, w5⟩ := hm
  refine a_after (S0 := S.map (a_v G)) (a := (As.map (a_v G)).toArray) hC hR hL hS h0 h1 h2 hle ?_ k
  have hg := a_goodIn w1
  have e1 : S.map (a_v G) = (As.map (a_v G)).reverse ++ rest.map (a_v G) := by
    rw [hSt, List.map_append, List.map_reverse]
  rw [e1]
  refine va_runS (As := As.map (a_v G)) (n := nA) ⟨hx, hb, hml, hown, hts⟩ ev ⟨⟨rfl, rfl, by show d' + 1 + 1 ≤ d + 1; omega, by show 8 + (M'.2.2.1 + 11) + 60 * (d' + 1) ≤ 60 * (d + 1); omega, pay_in hts hg, List.mem_cons_self, hts _ w1, hts _ w2, ⟨w3.1, w3.2.1⟩, fun sig hs => ?_, hts _ hlk⟩, hts _ w5⟩ ⟨a_blind, fun U hU hW => a_pre hK hX hb0 hR hS hU hW⟩ rfl (by simpa using hn) hL.2.1 rfl (by show 2 * 0 + _ ≤ 8; rw [a_cat_map]; omega) hd ⟨?_, ?_⟩
  · have h9 := w3.2.2
    rw [hs] at h9
    exact (Option.some.inj h9).symm
  · show h.1.length - n0 + _ ≤ h'.1.length - n0
    omega
  · show a_sz h.1 - z0 + _ ≤ a_sz h'.1 - z0
    omega
theorem a_Rn.callSN {M' : aM} {idx nA d' : Nat} {As rest : List Value} {r1 : Option Value} {H1 : aH} (ev : a_Ev G l d' M' As h r1 H1) (hd : decode M.2.1 pc = .ok (.invokestatic idx, 3)) (hlk : Cond.methodLinkNest M.1.cls idx M'.1 "NightCats" ∈ a_nst) (hm : a_mW M' nA ∧ Cond.static M'.1 ∈ a_tb)
    (hn : As.length = nA) (hdd : d' + 1 ≤ d) (hcat : a_cat rest ≤ 8) (hle : h.1.length ≤ H1.1.length ∧ a_sz h.1 ≤ a_sz H1.1 ∧ H1.1.length ≤ h'.1.length ∧ a_sz H1.1 ≤ a_sz h'.1)
    (hSt : S = As.reverse ++ rest) (k : a_Rn G l d M n0 z0 (pc + 3) L (r1.toList ++ rest) H1 r h') : a_Rn G l d M n0 z0 pc L S h r h' := by
  intro p e st m args below meth c H locs ls C hR hL hS h0 h1 h2 h3 h4
  have hC := C
  obtain ⟨hx, hb, -, hml, hts, hown, -, -, hK, hX, hb0⟩ := C
  obtain ⟨⟨w1, w2, w3, w4⟩, w5⟩ := hm
  refine a_after (S0 := S.map (a_v G)) (a := (As.map (a_v G)).toArray) hC hR hL hS h0 h1 h2 hle ?_ k
  have hg := a_goodIn w1
  have e1 : S.map (a_v G) = (As.map (a_v G)).reverse ++ rest.map (a_v G) := by
    rw [hSt, List.map_append, List.map_reverse]
  rw [e1]
  refine va_runSN (host := "NightCats") (As := As.map (a_v G)) (n := nA) ⟨hx, hb, hml, hown, hts⟩ ev ⟨⟨⟨rfl, rfl, by show d' + 1 + 1 ≤ d + 1; omega, by show 8 + (M'.2.2.1 + 11) + 60 * (d' + 1) ≤ 60 * (d + 1); omega, pay_in hts hg, List.mem_cons_self⟩, hts _ w1, hts _ w2, ⟨w3.1, w3.2.1⟩, fun sig hs => ?_, va_Nw.use rfl (hX.1 _ hlk)⟩, hts _ w5, trivial⟩ ⟨a_blind, fun U hU hW => a_pre hK hX hb0 hR hS hU hW⟩ rfl (by simpa using hn) hL.2.1 rfl (by show 2 * 0 + _ ≤ 8; rw [a_cat_map]; omega) hd ⟨?_, ?_⟩
  · have h9 := w3.2.2
    rw [hs] at h9
    exact (Option.some.inj h9).symm
  · show h.1.length - n0 + _ ≤ h'.1.length - n0
    omega
  · show a_sz h.1 - z0 + _ ≤ a_sz h'.1 - z0
    omega
theorem a_Rn.callI {M' : aM} {idx o nA d' : Nat} {As rest : List Value} {r1 : Option Value} {H1 : aH} (ev : a_Ev G l d' M' (.ref o :: As) h r1 H1) (hd : decode M.2.1 pc = .ok (.invokespecial idx, 3)) (hlk : Cond.methodLink M.1.cls idx M'.1 ∈ a_tb) (hm : a_mW M' nA ∧ Cond.instanceMethod M'.1 ∈ a_tb ∧ M'.1.name = "<init>" ∧ M'.2.2.2.1 = none)
    (hn : As.length = nA) (hdd : d' + 1 ≤ d) (hcat : a_cat rest ≤ 8) (hle : h.1.length ≤ H1.1.length ∧ a_sz h.1 ≤ a_sz H1.1 ∧ H1.1.length ≤ h'.1.length ∧ a_sz H1.1 ≤ a_sz h'.1)
    (hSt : S = As.reverse ++ .ref o :: rest) (k : a_Rn G l d M n0 z0 (pc + 3) L (r1.toList ++ rest) H1 r h') : a_Rn G l d M n0 z0 pc L S h r h' := by
  intro p e st m args below meth c H locs ls C hR hL hS h0 h1 h2 h3 h4
  have hC := C
  obtain ⟨hx, hb, -, hml, hts, hown, -, -, hK, hX, hb0⟩ := C
  obtain ⟨⟨w1, w2, w3, w4⟩, w5, w6, w7⟩ := hm
  refine a_after (S0 := S.map (a_v G)) (a := (Value.ref (a_ad G o) :: As.map (a_v G)).toArray) hC hR hL hS h0 h1 h2 hle ?_ k
  have hg := a_goodIn w1
  have e1 : S.map (a_v G) = (As.map (a_v G)).reverse ++ .ref (a_ad G o) :: rest.map (a_v G) := by
    rw [hSt, List.map_append, List.map_reverse, List.map_cons]
    rfl
  rw [e1]
  unfold a_Ev at ev
  rw [w7] at ev w1 hg
  refine va_runI (As := As.map (a_v G)) (n := nA) ⟨hx, hb, hml, hown, hts⟩ ev ⟨⟨rfl, rfl, by show d' + 1 + 1 ≤ d + 1; omega, by show 8 + (M'.2.2.1 + 11) + 60 * (d' + 1) ≤ 60 * (d + 1); omega, pay_in hts hg, List.mem_cons_self, hts _ w1, hts _ w2, ⟨w3.1, w3.2.1⟩, fun sig hs => ?_, hts _ hlk⟩, w6, hts _ w5⟩ ⟨a_blind, fun U hU hW => ?_⟩ rfl (by simpa using hn) hL.2.1 rfl (by show 2 * 0 + _ ≤ 8; rw [a_cat_map]; omega) hd ⟨?_, ?_⟩
  · have h9 := w3.2.2
    rw [hs] at h9
    exact (Option.some.inj h9).symm
  · have := a_pre (as := .ref o :: As) hK hX hb0 hR hS hU hW
    exact this
  · show h.1.length - n0 + _ ≤ h'.1.length - n0
    omega
  · show a_sz h.1 - z0 + _ ≤ a_sz h'.1 - z0
    omega
end AT
