/-! ===== the JDK methods that the class calls: bitCount as bytecode like ours; three of String ===== -/
def a_bits (x0 : Int32) : Int32 := ((((((((x0 - ((a_ushr x0 (nI 1)) &&& (nI 1431655765))) &&& (nI 858993459)) + ((a_ushr (x0 - ((a_ushr x0 (nI 1)) &&& (nI 1431655765))) (nI 2)) &&& (nI 858993459))) + (a_ushr (((x0 - ((a_ushr x0 (nI 1)) &&& (nI 1431655765))) &&& (nI 858993459)) + ((a_ushr (x0 - ((a_ushr x0 (nI 1)) &&& (nI 1431655765))) (nI 2)) &&& (nI 858993459))) (nI 4))) &&& (nI 252645135)) + (a_ushr (((((x0 - ((a_ushr x0 (nI 1)) &&& (nI 1431655765))) &&& (nI 858993459)) + ((a_ushr (x0 - ((a_ushr x0 (nI 1)) &&& (nI 1431655765))) (nI 2)) &&& (nI 858993459))) + (a_ushr (((x0 - ((a_ushr x0 (nI 1)) &&& (nI 1431655765))) &&& (nI 858993459)) + ((a_ushr (x0 - ((a_ushr x0 (nI 1)) &&& (nI 1431655765))) (nI 2)) &&& (nI 858993459))) (nI 4))) &&& (nI 252645135)) (nI 8))) + (a_ushr ((((((x0 - ((a_ushr x0 (nI 1)) &&& (nI 1431655765))) &&& (nI 858993459)) + ((a_ushr (x0 - ((a_ushr x0 (nI 1)) &&& (nI 1431655765))) (nI 2)) &&& (nI 858993459))) + (a_ushr (((x0 - ((a_ushr x0 (nI 1)) &&& (nI 1431655765))) &&& (nI 858993459)) + ((a_ushr (x0 - ((a_ushr x0 (nI 1)) &&& (nI 1431655765))) (nI 2)) &&& (nI 858993459))) (nI 4))) &&& (nI 252645135)) + (a_ushr (((((x0 - ((a_ushr x0 (nI 1)) &&& (nI 1431655765))) &&& (nI 858993459)) + ((a_ushr (x0 - ((a_ushr x0 (nI 1)) &&& (nI 1431655765))) (nI 2)) &&& (nI 858993459))) + (a_ushr (((x0 - ((a_ushr x0 (nI 1)) &&& (nI 1431655765))) &&& (nI 858993459)) + ((a_ushr (x0 - ((a_ushr x0 (nI 1)) &&& (nI 1431655765))) (nI 2)) &&& (nI 858993459))) (nI 4))) &&& (nI 252645135)) (nI 8))) (nI 16))) &&& (nI 63))
def RX12 : String := "java/lang/Integer"
abbrev cX12_bitCount : ByteArray := prog_15_method_49_code
def yX12_bitCount : MethodName := ⟨RX12, "bitCount", "(I)I"⟩
def fk12 : aF := ([], [(265, .int (nI 1431655765)), (266, .int (nI 858993459)), (267, .int (nI 252645135))], [])
theorem fok12 : a_fok RX12 fk12 := ⟨fun _ h => absurd h List.not_mem_nil, List.forall_mem_cons.mpr ⟨Or.inl ⟨_, rfl, a_tb5_at 10 rfl rfl⟩, List.forall_mem_cons.mpr ⟨Or.inl ⟨_, rfl, a_tb5_at 11 rfl rfl⟩, List.forall_mem_cons.mpr ⟨Or.inl ⟨_, rfl, a_tb5_at 12 rfl rfl⟩, fun _ h => absurd h List.not_mem_nil⟩⟩⟩, fun _ h => absurd h List.not_mem_nil⟩
def mX12_bitCount : aM := (yX12_bitCount, cX12_bitCount, 1, some .int, 99, false, fk12)
theorem okX12_bitCount : a_mok mX12_bitCount := ⟨fok12, fun q h => by cases h⟩
theorem mwX12_bitCount : a_mW mX12_bitCount 1 ∧ Cond.static yX12_bitCount ∈ a_tb := ⟨⟨a_tb5_at 9 rfl rfl, a_tb1_at 20 rfl rfl, by decide +kernel, by decide⟩, a_tb5_at 8 rfl rfl⟩
def FJbit (d : aI) (e : aJ) (x : Int32) : Option (Int32 × aI × aJ) := some (a_bits x, d, e)
theorem evJbit {Γ : aG × Launch} {d : aI} {e : aJ} {x0 : Int32} {q : Int32 × aI × aJ} (h : FJbit d e x0 = some q) : Ev Γ 0 mX12_bitCount [.int x0] d e (some (.int q.1)) q.2.1 q.2.2 := by
  cases h
  refine Ev.of (by decide) rfl (Nat.le_of_ble_eq_true rfl) (fun z => by cases z) ?_
  show Rn Γ 0 mX12_bitCount 0 [some (.int x0)] [] d e _ _ _
  exact a_Rn.blk (M := mX12_bitCount) okX12_bitCount (show a_ch cX12_bitCount 0 [.iload_n 0, .iload_n 0, .iconst 1, .iushr, .ldc_w 265, .iand, .isub, .istore_n 0, .iload_n 0, .ldc_w 266, .iand, .iload_n 0, .iconst 2, .iushr, .ldc_w 266, .iand, .iadd, .istore_n 0, .iload_n 0, .iload_n 0, .iconst 4, .iushr, .iadd, .ldc_w 267, .iand, .istore_n 0, .iload_n 0, .iload_n 0, .bipush 8, .iushr, .iadd, .istore_n 0, .iload_n 0, .iload_n 0, .bipush 16, .iushr, .iadd, .istore_n 0, .iload_n 0, .bipush 63, .iand] 52 = true by decide +kernel) (show a_xs fk12 99 false (SH.length, a_sz SH) [.iload_n 0, .iload_n 0, .iconst 1, .iushr, .ldc_w 265, .iand, .isub, .istore_n 0, .iload_n 0, .ldc_w 266, .iand, .iload_n 0, .iconst 2, .iushr, .ldc_w 266, .iand, .iadd, .istore_n 0, .iload_n 0, .iload_n 0, .iconst 4, .iushr, .iadd, .ldc_w 267, .iand, .istore_n 0, .iload_n 0, .iload_n 0, .bipush 8, .iushr, .iadd, .istore_n 0, .iload_n 0, .iload_n 0, .bipush 16, .iushr, .iadd, .istore_n 0, .iload_n 0, .bipush 63, .iand] [some (.int x0)] [] (hp d e) = some ([], [some (.int (((((((x0 - ((a_ushr x0 (nI 1)) &&& (nI 1431655765))) &&& (nI 858993459)) + ((a_ushr (x0 - ((a_ushr x0 (nI 1)) &&& (nI 1431655765))) (nI 2)) &&& (nI 858993459))) + (a_ushr (((x0 - ((a_ushr x0 (nI 1)) &&& (nI 1431655765))) &&& (nI 858993459)) + ((a_ushr (x0 - ((a_ushr x0 (nI 1)) &&& (nI 1431655765))) (nI 2)) &&& (nI 858993459))) (nI 4))) &&& (nI 252645135)) + (a_ushr (((((x0 - ((a_ushr x0 (nI 1)) &&& (nI 1431655765))) &&& (nI 858993459)) + ((a_ushr (x0 - ((a_ushr x0 (nI 1)) &&& (nI 1431655765))) (nI 2)) &&& (nI 858993459))) + (a_ushr (((x0 - ((a_ushr x0 (nI 1)) &&& (nI 1431655765))) &&& (nI 858993459)) + ((a_ushr (x0 - ((a_ushr x0 (nI 1)) &&& (nI 1431655765))) (nI 2)) &&& (nI 858993459))) (nI 4))) &&& (nI 252645135)) (nI 8))) + (a_ushr ((((((x0 - ((a_ushr x0 (nI 1)) &&& (nI 1431655765))) &&& (nI 858993459)) + ((a_ushr (x0 - ((a_ushr x0 (nI 1)) &&& (nI 1431655765))) (nI 2)) &&& (nI 858993459))) + (a_ushr (((x0 - ((a_ushr x0 (nI 1)) &&& (nI 1431655765))) &&& (nI 858993459)) + ((a_ushr (x0 - ((a_ushr x0 (nI 1)) &&& (nI 1431655765))) (nI 2)) &&& (nI 858993459))) (nI 4))) &&& (nI 252645135)) + (a_ushr (((((x0 - ((a_ushr x0 (nI 1)) &&& (nI 1431655765))) &&& (nI 858993459)) + ((a_ushr (x0 - ((a_ushr x0 (nI 1)) &&& (nI 1431655765))) (nI 2)) &&& (nI 858993459))) + (a_ushr (((x0 - ((a_ushr x0 (nI 1)) &&& (nI 1431655765))) &&& (nI 858993459)) + ((a_ushr (x0 - ((a_ushr x0 (nI 1)) &&& (nI 1431655765))) (nI 2)) &&& (nI 858993459))) (nI 4))) &&& (nI 252645135)) (nI 8))) (nI 16))))], [.int (a_bits x0)], hp d e) from rfl) trivial (a_Rn.iret rfl (show decode cX12_bitCount 52 = .ok (.ireturn, 1) by decide +kernel))
def ySlen : MethodName := ⟨"java/lang/String", "length", "()I"⟩
def mSlen : aM := (ySlen, prog_17_method_54_code, 1, (some .int), 99, false, ([], [], []))
theorem mwSlen : a_mW mSlen 0 ∧ Cond.instanceMethod ySlen ∈ a_tb ∧ Cond.selects ySlen.cls ySlen ySlen ∈ a_tb := ⟨⟨a_tb2_at 228 rfl rfl, a_tb1_at 14 rfl rfl, by decide +kernel, by decide⟩, a_tb2_at 226 rfl rfl, a_tb2_at 227 rfl rfl⟩
def ySchr : MethodName := ⟨"java/lang/String", "charAt", "(I)C"⟩
def mSchr : aM := (ySchr, prog_17_method_56_code, 2, (some .char), 99, false, ([], [], []))
theorem mwSchr : a_mW mSchr 1 ∧ Cond.instanceMethod ySchr ∈ a_tb ∧ Cond.selects ySchr.cls ySchr ySchr ∈ a_tb := ⟨⟨a_tb3_at 2 rfl rfl, a_tb1_at 14 rfl rfl, by decide +kernel, by decide⟩, a_tb3_at 0 rfl rfl, a_tb3_at 1 rfl rfl⟩
def ySidx : MethodName := ⟨"java/lang/String", "indexOf", "(I)I"⟩
def mSidx : aM := (ySidx, prog_17_method_79_code, 2, (some .int), 99, false, ([], [], []))
theorem mwSidx : a_mW mSidx 1 ∧ Cond.instanceMethod ySidx ∈ a_tb ∧ Cond.selects ySidx.cls ySidx ySidx ∈ a_tb := ⟨⟨a_tb3_at 51 rfl rfl, a_tb1_at 14 rfl rfl, by decide +kernel, by decide⟩, a_tb3_at 49 rfl rfl, a_tb3_at 50 rfl rfl⟩
/-- a call on one of the two texts -/
theorem a_Rn.callX {G : aG} {l : Launch} {d : Nat} {M : aM} {n0 z0 pc : Nat} {L : aL} {S : List Value} {h h' : aH} {r : Option Value} {M' : aM} {idx o nA d' : Nat} {As rest : List Value} {r1 : Option Value} {H1 : aH} (ev : a_Ev G l d' M' (.ref (1000 + o) :: As) h r1 H1) (hd : decode M.2.1 pc = .ok (.invokevirtual idx, 3)) (hlk : Cond.methodLink M.1.cls idx M'.1 ∈ a_tb) (hm : a_mW M' nA ∧ Cond.instanceMethod M'.1 ∈ a_tb ∧ Cond.selects M'.1.cls M'.1 M'.1 ∈ a_tb)
    (ho : o < 2) (hcl : M'.1.cls = "java/lang/String") (hn : As.length = nA) (hdd : d' + 1 ≤ d) (hcat : a_cat rest ≤ 8) (hle : h.1.length ≤ H1.1.length ∧ a_sz h.1 ≤ a_sz H1.1 ∧ H1.1.length ≤ h'.1.length ∧ a_sz H1.1 ≤ a_sz h'.1)
    (hSt : S = As.reverse ++ .ref (1000 + o) :: rest) (k : a_Rn G l d M n0 z0 (pc + 3) L (r1.toList ++ rest) H1 r h') : a_Rn G l d M n0 z0 pc L S h r h' := by
  intro p e st m args below meth c H locs ls C hR hL hS h0 h1 h2 h3 h4
  have hC := C
  obtain ⟨hx, hb, -, hml, hts, hown, -, -, hK, hX, hb0⟩ := C
  obtain ⟨⟨w1, w2, w3, w4⟩, w5, w6⟩ := hm
  have had : a_ad G (1000 + o) = G.2.2.2 o := by
    unfold a_ad
    rw [if_neg (by omega), Nat.add_sub_cancel_left]
  refine a_after (S0 := S.map (a_v G)) (a := (Value.ref (a_ad G (1000 + o)) :: As.map (a_v G)).toArray) hC hR hL hS h0 h1 h2 hle ?_ k
  have hg := a_goodIn w1
  have e1 : S.map (a_v G) = (As.map (a_v G)).reverse ++ .ref (a_ad G (1000 + o)) :: rest.map (a_v G) := by
    rw [hSt, List.map_append, List.map_reverse, List.map_cons]
    rfl
  rw [e1]
  refine va_runV (C := M'.1.cls) (As := As.map (a_v G)) (n := nA) ⟨hx, hb, hml, hown, hts⟩ ev ⟨⟨rfl, rfl, by show d' + 1 + 1 ≤ d + 1; omega, by show 8 + (M'.2.2.1 + 11) + 60 * (d' + 1) ≤ 60 * (d + 1); omega, pay_in hts hg, List.mem_cons_self, hts _ w1, hts _ w2, ⟨w3.1, w3.2.1⟩, fun sig hs => ?_, hts _ hlk⟩, hts _ w5, hts _ w6⟩ ⟨a_blind, ?_, fun U hU hW => ?_⟩ rfl (by simpa using hn) hL.2.1 rfl (by show 2 * 0 + _ ≤ 8; rw [a_cat_map]; omega) hd ⟨?_, ?_⟩
  · have h9 := w3.2.2
    rw [hs] at h9
    exact (Option.some.inj h9).symm
  · rw [had, hcl]
    exact vk_recv hX.2.2.1 ho hS
  · have := a_pre (as := .ref (1000 + o) :: As) hK hX hb0 hR hS hU hW
    exact this
  · show h.1.length - n0 + _ ≤ h'.1.length - n0
    omega
  · show a_sz h.1 - z0 + _ ≤ a_sz h'.1 - z0
    omega
def FSlen (d : aI) (e : aJ) : Option (Int32 × aI × aJ) := some (nI 156, d, e)
def a_chr (l : List Int32) (k : Nat) : Int32 := l.getD k 0
def FSchr (d : aI) (e : aJ) (i : Int32) : Option (Int32 × aI × aJ) := bif (decide (¬ (i < 0 ∨ 156 ≤ i.toNatClampNeg))) then some (a_chr (a_sb.getD 0 []) i.toNatClampNeg, d, e) else none
/-- where a sign stands first, from a place on -/
def a_fst (x : Int32) : List Int32 → Nat → Int32
  | [], _ => -(nI 1)
  | a :: l, k => if a = x then nI k else a_fst x l (k + 1)
def FSidx (d : aI) (e : aJ) (x : Int32) : Option (Int32 × aI × aJ) := bif (decide (¬ (x < 0 ∨ 256 ≤ x.toNatClampNeg))) then some (a_fst x (a_sb.getD 1 []) 0, d, e) else none
/-! ===== the JDK methods that stand behind them ===== -/
theorem a_MetV {G : aG} {l : Launch} {d : Nat} {M : aM} {av : List Value} {L : aL} {h h' : aH} {r : Option Value} (hy : plainName M.1.cls = true) (hlen : h.1.length ≤ h'.1.length ∧ a_sz h.1 ≤ a_sz h'.1) (hn : (lg_sl av).length ≤ M.2.2.1)
    (hi : M.2.2.2.2.2.1 = true → M.1.name = "<init>") (hLL : ∀ ls, lv_has ls M.2.2.1 (lv_args 0 av) → a_LH G ls M.2.2.1 L)
    (k : a_Rn G l d M h.1.length (a_sz h.1) 0 L [] h r h') : Met l M.1 (Cond.code M.1 M.2.1 M.2.2.1 M.2.2.2.1 :: a_tb) (a_rm d (h'.1.length - h.1.length) (a_sz h'.1 - a_sz h.1)) (va_Pc av (fun U => a_Rp G h U.heap ∧ va_K G.2.1 acl (a_tys G) U ∧ a_X G U U.heap ∧ G.1 ≤ U.heap.size)) (a_Q G r h') (h'.1.length - h.1.length) (a_sz h'.1 - a_sz h.1) (fun q => G.1 ≤ q) := by
  refine Met.ofW (cc := M.2.1) (maxL := M.2.2.1) (ret := M.2.2.2.1) hy rfl ?_
  intro p e s m args below meth c s₁ B hml hv
  obtain ⟨rfl, hR, hK, hX, hb⟩ := hv
  have hts : ∀ w ∈ a_tb, w.before _ s = true := fun w hw => atoms_spec (ws := Cond.code M.1 M.2.1 M.2.2.1 M.2.2.2.1 :: a_tb) B.pre w (List.mem_cons_of_mem _ hw)
  have hl := lv_entry av (n := M.2.2.1) hn
  rw [lg_entry_eq]
  generalize (lg_sl av ++ List.replicate (M.2.2.1 - (lg_sl av).length) Slot.unset).toArray = ls at hl ⊢
  have h9 := k p e s m _ below meth c s.heap [] ls ⟨B.exec, B.bytes, B.returns, hml, hts, findClass_of_methodNamed B.named, B.notSynchronized, fun q => (name_of_methodNamed B.named B.method).1.trans (hi q), hK, hX, hb⟩ hR (hLL _ hl) va_S.rf hR.2.1 (Nat.le_refl _) (Nat.le_refl _) hlen.1 hlen.2
  rw [Nat.sub_self, Nat.sub_self] at h9
  exact h9
theorem a_blindV {G : aG} {h : aH} {av : List Value} : FrameBlind (va_Pc av (fun U => a_Rp G h U.heap ∧ va_K G.2.1 acl (a_tys G) U ∧ a_X G U U.heap ∧ G.1 ≤ U.heap.size)) := by
  intro a U g mk q
  obtain ⟨q0, q1, q2, q3, q4⟩ := q
  exact ⟨q0, q1, va_K.moved (u := U) (U := U.calling g mk a) (Vm.Alike.refl U.vm) q2, a_X.same (U := U.calling g mk a) q3 rfl, q4⟩
theorem a_preV {G : aG} {h : aH} {st U : State} {H : Heap} {locs : List Loc} {av : List Value} (hK : va_K G.2.1 acl (a_tys G) st) (hX : a_X G st st.heap) (hb : G.1 ≤ st.heap.size) (hR : a_Rp G h H) (hS : va_S (fun q => G.1 ≤ q) st.heap H locs) (hU : U.heap = H) (hW : st.WarmedH U.vm) : va_Pc av (fun U => a_Rp G h U.heap ∧ va_K G.2.1 acl (a_tys G) U ∧ a_X G U U.heap ∧ G.1 ≤ U.heap.size) av.toArray U :=
  ⟨rfl, by rw [hU]; exact hR, va_K.moved hW.alike hK, hX.go hW (fun q g1 g2 => by rw [hU]; exact hS.2.1 q g1 g2), by rw [hU]; exact Nat.le_trans hb hS.1⟩
section JST
variable {G : aG} {l : Launch} {d : Nat} {M : aM} {n0 z0 pc : Nat} {L : aL} {S : List Value} {h h' : aH} {r : Option Value} {o : Nat}
theorem j_ad (G : aG) (o : Nat) : a_ad G (1000 + o) = G.2.2.2 o := by
  unfold a_ad
  rw [if_neg (by omega), Nat.add_sub_cancel_left]
theorem j_val (ho : o < 2) (hl : Cond.fieldLink M.1.cls 9 "java/lang/String" "value" "[B" ∈ a_tb) (hd : decode M.2.1 pc = .ok (.getfield 9, 3)) (k : a_Rn G l d M n0 z0 (pc + 3) L (.ref (1000 + (o + 10)) :: S) h r h') : a_Rn G l d M n0 z0 pc L (.ref (1000 + o) :: S) h r h' := by
  intro p e st m args below meth c H locs ls C hR hL hS h0 h1 h2 h3 h4
  have kk := k p e st m args below meth c H locs ls C hR hL hS h0 h1 h2 h3 h4
  obtain ⟨hx, hb, -, hml, hts, hown, -, -, hK, hX, hb0⟩ := C
  rw [List.map_cons, show a_v G (.ref (1000 + (o + 10))) = .ref (G.2.2.2 (o + 10)) from congrArg Value.ref (j_ad G (o + 10))] at kk
  rw [List.map_cons, show a_v G (.ref (1000 + o)) = .ref (G.2.2.2 o) from congrArg Value.ref (j_ad G o)]
  exact vk_getf hx hb (hX.2.2.1.1 o ho).2.2.1 hS hown (hts _ hl) (fun x q => q) hd kk
theorem j_cod (ho : o < 2) (hl : Cond.fieldLink M.1.cls 15 "java/lang/String" "coder" "B" ∈ a_tb) (hd : decode M.2.1 pc = .ok (.getfield 15, 3)) (k : a_Rn G l d M n0 z0 (pc + 3) L (.int 0 :: S) h r h') : a_Rn G l d M n0 z0 pc L (.ref (1000 + o) :: S) h r h' := by
  intro p e st m args below meth c H locs ls C hR hL hS h0 h1 h2 h3 h4
  have kk := k p e st m args below meth c H locs ls C hR hL hS h0 h1 h2 h3 h4
  obtain ⟨hx, hb, -, hml, hts, hown, -, -, hK, hX, hb0⟩ := C
  rw [List.map_cons, show a_v G (.ref (1000 + o)) = .ref (G.2.2.2 o) from congrArg Value.ref (j_ad G o)]
  exact vk_getf hx hb (hX.2.2.1.1 o ho).2.1 hS hown (hts _ hl) (fun x q => q) hd kk
theorem j_cmp (hl : Cond.fieldLink M.1.cls 38 "java/lang/String" "COMPACT_STRINGS" "Z" ∈ a_tb) (hd : decode M.2.1 pc = .ok (.getstatic 38, 3)) (k : a_Rn G l d M n0 z0 (pc + 3) L (.int 1 :: S) h r h') : a_Rn G l d M n0 z0 pc L S h r h' := by
  intro p e st m args below meth c H locs ls C hR hL hS h0 h1 h2 h3 h4
  have kk := k p e st m args below meth c H locs ls C hR hL hS h0 h1 h2 h3 h4
  obtain ⟨hx, hb, -, hml, hts, hown, -, -, hK, hX, hb0⟩ := C
  exact va_gets hx hb hX.2.2.2.2.2.1 hS hown (hts _ hl) (fun x q => q) hd kk
theorem j_len (ho : o < 2) (hd : decode M.2.1 pc = .ok (.arraylength, 1)) (k : a_Rn G l d M n0 z0 (pc + 1) L (.int (nI (a_sl.getD o 0)) :: S) h r h') : a_Rn G l d M n0 z0 pc L (.ref (1000 + (o + 10)) :: S) h r h' := by
  intro p e st m args below meth c H locs ls C hR hL hS h0 h1 h2 h3 h4
  have kk := k p e st m args below meth c H locs ls C hR hL hS h0 h1 h2 h3 h4
  obtain ⟨hx, hb, -, hml, hts, hown, -, -, hK, hX, hb0⟩ := C
  rw [List.map_cons, show a_v G (.ref (1000 + (o + 10))) = .ref (G.2.2.2 (o + 10)) from congrArg Value.ref (j_ad G (o + 10))]
  exact va_tlen hx hb (hX.2.2.1.1 o ho).2.2.2 hS rfl hd kk
theorem j_ld {i : Int32} (ho : o < 2) (hin : vp_in i (a_sl.getD o 0)) (hd : decode M.2.1 pc = .ok (.baload, 1)) (k : a_Rn G l d M n0 z0 (pc + 1) L (.int ((a_sb.getD o []).getD i.toNatClampNeg 0) :: S) h r h') : a_Rn G l d M n0 z0 pc L (.int i :: .ref (1000 + (o + 10)) :: S) h r h' := by
  intro p e st m args below meth c H locs ls C hR hL hS h0 h1 h2 h3 h4
  have kk := k p e st m args below meth c H locs ls C hR hL hS h0 h1 h2 h3 h4
  obtain ⟨hx, hb, -, hml, hts, hown, -, -, hK, hX, hb0⟩ := C
  rw [List.map_cons, List.map_cons, show a_v G (.ref (1000 + (o + 10))) = .ref (G.2.2.2 (o + 10)) from congrArg Value.ref (j_ad G (o + 10))]
  exact va_tb hx hb (hX.2.2.1.1 o ho).2.2.2 hS hin rfl hd kk
theorem j_i2b {x : Int32} (hd : decode M.2.1 pc = .ok (.i2b, 1)) (k : a_Rn G l d M n0 z0 (pc + 1) L (.int x.toInt8.toInt32 :: S) h r h') : a_Rn G l d M n0 z0 pc L (.int x :: S) h r h' :=
  fun p e st m args below meth c H locs ls C hR hL hS h0 h1 h2 h3 h4 => lv_i2b C.1 C.2.1 hd rfl (k p e st m args below meth c H locs ls C hR hL hS h0 h1 h2 h3 h4)
end JST
def yj_cod : MethodName := ⟨"java/lang/String", "coder", "()B"⟩
def mj_cod : aM := (yj_cod, prog_17_method_152_code, 1, (some .byte), 99, false, ([], [], []))
theorem okj_cod : a_mok mj_cod := ⟨⟨fun _ h => absurd h List.not_mem_nil, fun _ h => absurd h List.not_mem_nil, fun _ h => absurd h List.not_mem_nil⟩, fun q h => by cases h⟩
theorem mwj_cod : a_mW mj_cod 0 ∧ Cond.instanceMethod yj_cod ∈ a_tb ∧ Cond.selects yj_cod.cls yj_cod yj_cod ∈ a_tb := ⟨⟨a_tb2_at 232 rfl rfl, a_tb1_at 14 rfl rfl, by decide +kernel, by decide⟩, a_tb2_at 230 rfl rfl, a_tb2_at 231 rfl rfl⟩
def yj_lat : MethodName := ⟨"java/lang/String", "isLatin1", "()Z"⟩
def mj_lat : aM := (yj_lat, prog_17_method_154_code, 1, (some .boolean), 99, false, ([], [], []))
theorem okj_lat : a_mok mj_lat := ⟨⟨fun _ h => absurd h List.not_mem_nil, fun _ h => absurd h List.not_mem_nil, fun _ h => absurd h List.not_mem_nil⟩, fun q h => by cases h⟩
theorem mwj_lat : a_mW mj_lat 0 ∧ Cond.instanceMethod yj_lat ∈ a_tb ∧ Cond.selects yj_lat.cls yj_lat yj_lat ∈ a_tb := ⟨⟨a_tb3_at 6 rfl rfl, a_tb1_at 14 rfl rfl, by decide +kernel, by decide⟩, a_tb3_at 4 rfl rfl, a_tb3_at 5 rfl rfl⟩
def yj_pre : MethodName := ⟨"jdk/internal/util/Preconditions", "checkIndex", "(IILjava/util/function/BiFunction;)I"⟩
def mj_pre : aM := (yj_pre, prog_21_method_11_code, 3, (some .int), 99, false, ([], [], []))
theorem okj_pre : a_mok mj_pre := ⟨⟨fun _ h => absurd h List.not_mem_nil, fun _ h => absurd h List.not_mem_nil, fun _ h => absurd h List.not_mem_nil⟩, fun q h => by cases h⟩
theorem mwj_pre : a_mW mj_pre 3 ∧ Cond.static yj_pre ∈ a_tb := ⟨⟨a_tb3_at 17 rfl rfl, a_tb1_at 16 rfl rfl, by decide +kernel, by decide⟩, a_tb3_at 16 rfl rfl⟩
def yj_chk : MethodName := ⟨"java/lang/String", "checkIndex", "(II)V"⟩
def mj_chk : aM := (yj_chk, prog_17_method_155_code, 2, none, 99, false, ([], [], []))
theorem okj_chk : a_mok mj_chk := ⟨⟨fun _ h => absurd h List.not_mem_nil, fun _ h => absurd h List.not_mem_nil, fun _ h => absurd h List.not_mem_nil⟩, fun q h => by cases h⟩
theorem mwj_chk : a_mW mj_chk 2 ∧ Cond.static yj_chk ∈ a_tb := ⟨⟨a_tb3_at 12 rfl rfl, a_tb1_at 14 rfl rfl, by decide +kernel, by decide⟩, a_tb3_at 11 rfl rfl⟩
def yj_l1c : MethodName := ⟨"java/lang/StringLatin1", "charAt", "([BI)C"⟩
def mj_l1c : aM := (yj_l1c, prog_18_method_2_code, 2, (some .char), 99, false, ([], [], []))
theorem okj_l1c : a_mok mj_l1c := ⟨⟨fun _ h => absurd h List.not_mem_nil, fun _ h => absurd h List.not_mem_nil, fun _ h => absurd h List.not_mem_nil⟩, fun q h => by cases h⟩
theorem mwj_l1c : a_mW mj_l1c 2 ∧ Cond.static yj_l1c ∈ a_tb := ⟨⟨a_tb3_at 9 rfl rfl, a_tb1_at 15 rfl rfl, by decide +kernel, by decide⟩, a_tb3_at 8 rfl rfl⟩
def yj_enc : MethodName := ⟨"java/lang/StringLatin1", "canEncode", "(I)Z"⟩
def mj_enc : aM := (yj_enc, prog_18_method_4_code, 1, (some .boolean), 99, false, ([], [], []))
theorem okj_enc : a_mok mj_enc := ⟨⟨fun _ h => absurd h List.not_mem_nil, fun _ h => absurd h List.not_mem_nil, fun _ h => absurd h List.not_mem_nil⟩, fun q h => by cases h⟩
theorem mwj_enc : a_mW mj_enc 1 ∧ Cond.static yj_enc ∈ a_tb := ⟨⟨a_tb3_at 62 rfl rfl, a_tb1_at 15 rfl rfl, by decide +kernel, by decide⟩, a_tb3_at 61 rfl rfl⟩
def yj_ioc : MethodName := ⟨"java/lang/StringLatin1", "indexOfChar", "([BIII)I"⟩
def mj_ioc : aM := (yj_ioc, prog_18_method_23_code, 6, (some .int), 99, false, ([], [], []))
theorem okj_ioc : a_mok mj_ioc := ⟨⟨fun _ h => absurd h List.not_mem_nil, fun _ h => absurd h List.not_mem_nil, fun _ h => absurd h List.not_mem_nil⟩, fun q h => by cases h⟩
theorem mwj_ioc : a_mW mj_ioc 4 ∧ Cond.static yj_ioc ∈ a_tb := ⟨⟨a_tb3_at 67 rfl rfl, a_tb1_at 15 rfl rfl, by decide +kernel, by decide⟩, a_tb3_at 66 rfl rfl⟩
def yj_l1i : MethodName := ⟨"java/lang/StringLatin1", "indexOf", "([BIII)I"⟩
def mj_l1i : aM := (yj_l1i, prog_18_method_22_code, 4, (some .int), 99, false, ([], [], [(92, 0), (38, 1)]))
theorem okj_l1i : a_mok mj_l1i := ⟨⟨fun _ h => absurd h List.not_mem_nil, fun _ h => absurd h List.not_mem_nil, List.forall_mem_cons.mpr ⟨Or.inl ⟨rfl, a_tb3_at 63 rfl rfl⟩, List.forall_mem_cons.mpr ⟨Or.inr (Or.inl ⟨rfl, a_tb3_at 64 rfl rfl⟩), fun _ h => absurd h List.not_mem_nil⟩⟩⟩, fun q h => by cases h⟩
theorem mwj_l1i : a_mW mj_l1i 4 ∧ Cond.static yj_l1i ∈ a_tb := ⟨⟨a_tb3_at 59 rfl rfl, a_tb1_at 15 rfl rfl, by decide +kernel, by decide⟩, a_tb3_at 58 rfl rfl⟩
def yj_ix2 : MethodName := ⟨"java/lang/String", "indexOf", "(II)I"⟩
def mj_ix2 : aM := (yj_ix2, prog_17_method_80_code, 3, (some .int), 99, false, ([], [], []))
theorem okj_ix2 : a_mok mj_ix2 := ⟨⟨fun _ h => absurd h List.not_mem_nil, fun _ h => absurd h List.not_mem_nil, fun _ h => absurd h List.not_mem_nil⟩, fun q h => by cases h⟩
theorem mwj_ix2 : a_mW mj_ix2 2 ∧ Cond.instanceMethod yj_ix2 ∈ a_tb ∧ Cond.selects yj_ix2.cls yj_ix2 yj_ix2 ∈ a_tb := ⟨⟨a_tb3_at 55 rfl rfl, a_tb1_at 14 rfl rfl, by decide +kernel, by decide⟩, a_tb3_at 53 rfl rfl, a_tb3_at 54 rfl rfl⟩
theorem okSlen : a_mok mSlen := ⟨⟨fun _ h => absurd h List.not_mem_nil, fun _ h => absurd h List.not_mem_nil, fun _ h => absurd h List.not_mem_nil⟩, fun q h => by cases h⟩
theorem okSchr : a_mok mSchr := ⟨⟨fun _ h => absurd h List.not_mem_nil, fun _ h => absurd h List.not_mem_nil, fun _ h => absurd h List.not_mem_nil⟩, fun q h => by cases h⟩
theorem okSidx : a_mok mSidx := ⟨⟨fun _ h => absurd h List.not_mem_nil, fun _ h => absurd h List.not_mem_nil, fun _ h => absurd h List.not_mem_nil⟩, fun q h => by cases h⟩
theorem ej_cod {G : aG} {l : Launch} {h : aH} {o : Nat} (ho : o < 2) : a_Ev G l 0 mj_cod [.ref (1000 + o)] h (some (.int 0)) h := by
  refine a_Ev.of (by decide) ⟨Nat.le_refl _, Nat.le_refl _⟩ rfl (Nat.le_of_ble_eq_true rfl) (fun z => by cases z) ?_
  show a_Rn _ _ 0 mj_cod _ _ 0 [some (.ref (1000 + o))] [] h _ h
  refine j_cmp (M := mj_cod) (by exact a_tb2_at 233 rfl rfl) (show decode mj_cod.2.1 0 = .ok (.getstatic 38, 3) by decide +kernel) ?_
  refine a_Rn.ifc (show decode mj_cod.2.1 3 = .ok (.ifCond .eq 10, 3) by decide +kernel) (show ((3 : Nat) : Int) + 10 = ((13 : Nat) : Int) by decide) (fun z => absurd z (show ¬ (nI 1 : Int32) = 0 by decide)) (fun _ => ?_)
  refine a_Rn.blk (M := mj_cod) okj_cod (show a_ch mj_cod.2.1 6 [.aload_n 0] 7 = true by decide +kernel) (show a_xs ([], [], []) 99 false (h.1.length, a_sz h.1) [.aload_n 0] [some (.ref (1000 + o))] [] h = some ([], [some (.ref (1000 + o))], [.ref (1000 + o)], h) from rfl) trivial ?_
  refine j_cod (M := mj_cod) ho (by exact a_tb9_at 41 rfl rfl) (show decode mj_cod.2.1 7 = .ok (.getfield 15, 3) by decide +kernel) ?_
  refine a_Rn.goto (show decode mj_cod.2.1 10 = .ok (.goto 4, 3) by decide +kernel) (show ((10 : Nat) : Int) + 4 = ((14 : Nat) : Int) by decide) ?_
  exact a_Rn.zret rfl rfl (show decode mj_cod.2.1 14 = .ok (.ireturn, 1) by decide +kernel)
theorem ej_lat {G : aG} {l : Launch} {h : aH} {o : Nat} (ho : o < 2) : a_Ev G l 0 mj_lat [.ref (1000 + o)] h (some (.int (nI 1))) h := by
  refine a_Ev.of (by decide) ⟨Nat.le_refl _, Nat.le_refl _⟩ rfl (Nat.le_of_ble_eq_true rfl) (fun z => by cases z) ?_
  show a_Rn _ _ 0 mj_lat _ _ 0 [some (.ref (1000 + o))] [] h _ h
  refine j_cmp (M := mj_lat) (by exact a_tb2_at 233 rfl rfl) (show decode mj_lat.2.1 0 = .ok (.getstatic 38, 3) by decide +kernel) ?_
  refine a_Rn.ifc (show decode mj_lat.2.1 3 = .ok (.ifCond .eq 14, 3) by decide +kernel) (show ((3 : Nat) : Int) + 14 = ((17 : Nat) : Int) by decide) (fun z => absurd z (show ¬ (nI 1 : Int32) = 0 by decide)) (fun _ => ?_)
  refine a_Rn.blk (M := mj_lat) okj_lat (show a_ch mj_lat.2.1 6 [.aload_n 0] 7 = true by decide +kernel) (show a_xs ([], [], []) 99 false (h.1.length, a_sz h.1) [.aload_n 0] [some (.ref (1000 + o))] [] h = some ([], [some (.ref (1000 + o))], [.ref (1000 + o)], h) from rfl) trivial ?_
  refine j_cod (M := mj_lat) ho (by exact a_tb9_at 41 rfl rfl) (show decode mj_lat.2.1 7 = .ok (.getfield 15, 3) by decide +kernel) ?_
  refine a_Rn.ifc (show decode mj_lat.2.1 10 = .ok (.ifCond .ne 7, 3) by decide +kernel) (show ((10 : Nat) : Int) + 7 = ((17 : Nat) : Int) by decide) (fun z => absurd rfl z) (fun _ => ?_)
  refine a_Rn.blk (M := mj_lat) okj_lat (show a_ch mj_lat.2.1 13 [.iconst 1] 14 = true by decide +kernel) (show a_xs ([], [], []) 99 false (h.1.length, a_sz h.1) [.iconst 1] [some (.ref (1000 + o))] [] h = some ([], [some (.ref (1000 + o))], [.int (nI 1)], h) from rfl) trivial ?_
  refine a_Rn.goto (show decode mj_lat.2.1 14 = .ok (.goto 4, 3) by decide +kernel) (show ((14 : Nat) : Int) + 4 = ((18 : Nat) : Int) by decide) ?_
  exact a_Rn.zret rfl rfl (show decode mj_lat.2.1 18 = .ok (.ireturn, 1) by decide +kernel)
theorem j_shr0 {o : Nat} (ho : o < 2) : a_shr (nI (a_sl.getD o 0)) 0 = nI (a_sl.getD o 0) := by
  rcases (show o = 0 ∨ o = 1 by omega) with rfl | rfl <;> decide +kernel
theorem ej_lenD {G : aG} {l : Launch} {h : aH} {o : Nat} {D : Nat} (ho : o < 2) (hD : 1 ≤ D) : a_Ev G l D mSlen [.ref (1000 + o)] h (some (.int (nI (a_sl.getD o 0)))) h := by
  refine a_Ev.of (by decide) ⟨Nat.le_refl _, Nat.le_refl _⟩ rfl (Nat.le_of_ble_eq_true rfl) (fun z => by cases z) ?_
  show a_Rn _ _ D mSlen _ _ 0 [some (.ref (1000 + o))] [] h _ h
  refine a_Rn.blk (M := mSlen) okSlen (show a_ch mSlen.2.1 0 [.aload_n 0] 1 = true by decide +kernel) (show a_xs ([], [], []) 99 false (h.1.length, a_sz h.1) [.aload_n 0] [some (.ref (1000 + o))] [] h = some ([], [some (.ref (1000 + o))], [.ref (1000 + o)], h) from rfl) trivial ?_
  refine j_val (M := mSlen) ho (by exact a_tb9_at 40 rfl rfl) (show decode mSlen.2.1 1 = .ok (.getfield 9, 3) by decide +kernel) ?_
  refine j_len ho (show decode mSlen.2.1 4 = .ok (.arraylength, 1) by decide +kernel) ?_
  refine a_Rn.blk (M := mSlen) okSlen (show a_ch mSlen.2.1 5 [.aload_n 0] 6 = true by decide +kernel) (show a_xs ([], [], []) 99 false (h.1.length, a_sz h.1) [.aload_n 0] [some (.ref (1000 + o))] [.int (nI (a_sl.getD o 0))] h = some ([], [some (.ref (1000 + o))], [.ref (1000 + o), .int (nI (a_sl.getD o 0))], h) from rfl) trivial ?_
  refine a_Rn.callX (M := mSlen) (M' := mj_cod) (o := o) (As := []) (rest := [.int (nI (a_sl.getD o 0))]) (ej_cod ho) (show decode mSlen.2.1 6 = .ok (.invokevirtual 335, 3) by decide +kernel) (show Cond.methodLink mSlen.1.cls 335 yj_cod ∈ a_tb from a_tb2_at 229 rfl rfl) mwj_cod ho rfl rfl hD (Nat.le_of_ble_eq_true rfl) ⟨Nat.le_refl _, Nat.le_refl _, Nat.le_refl _, Nat.le_refl _⟩ rfl ?_
  refine a_Rn.blk (M := mSlen) okSlen (show a_ch mSlen.2.1 9 [.ishr] 10 = true by decide +kernel) (show a_xs ([], [], []) 99 false (h.1.length, a_sz h.1) [.ishr] [some (.ref (1000 + o))] [.int 0, .int (nI (a_sl.getD o 0))] h = some ([], [some (.ref (1000 + o))], [.int (a_shr (nI (a_sl.getD o 0)) 0)], h) from rfl) trivial ?_
  rw [j_shr0 ho]
  exact a_Rn.zret rfl rfl (show decode mSlen.2.1 10 = .ok (.ireturn, 1) by decide +kernel)
theorem ej_len {G : aG} {l : Launch} {h : aH} {o : Nat} (ho : o < 2) : a_Ev G l 1 mSlen [.ref (1000 + o)] h (some (.int (nI (a_sl.getD o 0)))) h := ej_lenD ho (Nat.le_refl _)
theorem ej_pre {G : aG} {l : Launch} {h : aH} {i n : Int32} {v : Value} (hv : v = .null ∨ ∃ t, v = .ref t) (h0 : ¬ i < 0) (h1 : i < n) : Met l mj_pre.1 (Cond.code mj_pre.1 mj_pre.2.1 mj_pre.2.2.1 mj_pre.2.2.2.1 :: a_tb) (a_rm 0 (h.1.length - h.1.length) (a_sz h.1 - a_sz h.1)) (va_Pc [.int i, .int n, v] (fun U => a_Rp G h U.heap ∧ va_K G.2.1 acl (a_tys G) U ∧ a_X G U U.heap ∧ G.1 ≤ U.heap.size)) (a_Q G (some (.int i)) h) (h.1.length - h.1.length) (a_sz h.1 - a_sz h.1) (fun q => G.1 ≤ q) := by
  have hc : v.category = 1 := by rcases hv with rfl | ⟨t, rfl⟩ <;> rfl
  refine a_MetV (L := [some (.int i), some (.int n), none]) (by decide) ⟨Nat.le_refl _, Nat.le_refl _⟩ ?_ (fun z => by cases z) (fun ls hl => ⟨rfl, lv_mem hl fun q hq => ?_⟩) ?_
  · rcases hv with rfl | ⟨t, rfl⟩ <;> exact Nat.le_of_ble_eq_true rfl
  · have hq2 : q ∈ [((0 : Nat), Value.int i), (1, .int n)] := hq
    show q ∈ lv_args 0 [.int i, .int n, v]
    simp only [lv_args, Value.category, hc]
    rcases List.mem_cons.mp hq2 with rfl | hq3
    · simp
    · rcases List.mem_cons.mp hq3 with rfl | hq4
      · simp
      · exact absurd hq4 List.not_mem_nil
  refine a_Rn.blk (M := mj_pre) okj_pre (show a_ch mj_pre.2.1 0 [.iload_n 0] 1 = true by decide +kernel) (show a_xs ([], [], []) 99 false (h.1.length, a_sz h.1) [.iload_n 0] [some (.int i), some (.int n), none] [] h = some ([], [some (.int i), some (.int n), none], [.int i], h) from rfl) trivial ?_
  refine a_Rn.ifc (show decode mj_pre.2.1 1 = .ok (.ifCond .lt 8, 3) by decide +kernel) (show ((1 : Nat) : Int) + 8 = ((9 : Nat) : Int) by decide) (fun z => absurd z h0) (fun _ => ?_)
  refine a_Rn.blk (M := mj_pre) okj_pre (show a_ch mj_pre.2.1 4 [.iload_n 0, .iload_n 1] 6 = true by decide +kernel) (show a_xs ([], [], []) 99 false (h.1.length, a_sz h.1) [.iload_n 0, .iload_n 1] [some (.int i), some (.int n), none] [] h = some ([], [some (.int i), some (.int n), none], [.int n, .int i], h) from rfl) trivial ?_
  refine a_Rn.icmp (show decode mj_pre.2.1 6 = .ok (.if_icmp .lt 10, 3) by decide +kernel) (show ((6 : Nat) : Int) + 10 = ((16 : Nat) : Int) by decide) (fun _ => ?_) (fun z => absurd h1 z)
  refine a_Rn.blk (M := mj_pre) okj_pre (show a_ch mj_pre.2.1 16 [.iload_n 0] 17 = true by decide +kernel) (show a_xs ([], [], []) 99 false (h.1.length, a_sz h.1) [.iload_n 0] [some (.int i), some (.int n), none] [] h = some ([], [some (.int i), some (.int n), none], [.int i], h) from rfl) trivial ?_
  exact a_Rn.iret rfl (show decode mj_pre.2.1 17 = .ok (.ireturn, 1) by decide +kernel)
theorem j_fmt {G : aG} {l : Launch} {n0 z0 : Nat} {L : aL} {h : aH} {r : Option Value} {i n : Int32} (h0 : ¬ i < 0) (h1 : i < n) (k : a_Rn G l 1 mj_chk n0 z0 8 L [.int i] h r h) : a_Rn G l 1 mj_chk n0 z0 2 L [.int n, .int i] h r h := by
  intro p e st m args below meth c H locs ls C hR hL hS g0 g1 g2 g3 g4
  have hC := C
  obtain ⟨hx, hb, -, hml, hts, hown, -, -, hK, hX, hb0⟩ := C
  obtain ⟨⟨w1, w2, w3, w4⟩, w5⟩ := mwj_pre
  obtain ⟨v, hv, hz⟩ : ∃ v : Value, (v = .null ∨ ∃ t, v = .ref t) ∧ va_Z "jdk/internal/util/Preconditions" "SIOOBE_FORMATTER" "Ljava/util/function/BiFunction;" v (fun q => G.1 ≤ q) st st.heap := by
    rcases hX.2.2.2.2.2.2 with z | ⟨t, z⟩
    · exact ⟨_, Or.inl rfl, z⟩
    · exact ⟨_, Or.inr ⟨t, rfl⟩, z⟩
  refine va_gets hx hb hz hS hown (hts _ (show Cond.fieldLink mj_chk.1.cls 1053 "jdk/internal/util/Preconditions" "SIOOBE_FORMATTER" "Ljava/util/function/BiFunction;" ∈ a_tb from a_tb3_at 13 rfl rfl)) (fun x q => q) (show decode mj_chk.2.1 2 = .ok (.getstatic 1053, 3) by decide +kernel) ?_
  refine a_after (S0 := [v, .int n, .int i]) (rest := []) (r1 := some (.int i)) (H1 := h) (a := [.int i, .int n, v].toArray) (pc := 5) hC hR hL hS g0 g1 g2 ⟨Nat.le_refl _, Nat.le_refl _, Nat.le_refl _, Nat.le_refl _⟩ ?_ k
  have hg := a_goodIn w1
  refine va_runS (As := [.int i, .int n, v]) (n := 3) ⟨hx, hb, hml, hown, hts⟩ (ej_pre hv h0 h1) ⟨⟨rfl, rfl, (by show 0 + 1 + 1 ≤ 1 + 1; omega), (by show 8 + (3 + 11) + 60 * (0 + 1) ≤ 60 * (1 + 1); omega), pay_in hts hg, List.mem_cons_self, hts _ w1, hts _ w2, ⟨w3.1, w3.2.1⟩, fun sig hs => ?_, hts _ (show Cond.methodLink mj_chk.1.cls 1059 yj_pre ∈ a_tb from a_tb3_at 15 rfl rfl)⟩, hts _ w5⟩ ⟨a_blindV, fun U hU hW => a_preV hK hX hb0 hR hS hU hW⟩ rfl rfl hL.2.1 rfl (Nat.zero_le 8) (show decode mj_chk.2.1 5 = .ok (.invokestatic 1059, 3) by decide +kernel) ⟨?_, ?_⟩
  · have h9 := w3.2.2
    rw [hs] at h9
    exact (Option.some.inj h9).symm
  · show h.1.length - n0 + _ ≤ h.1.length - n0
    omega
  · show a_sz h.1 - z0 + _ ≤ a_sz h.1 - z0
    omega
theorem ej_chk {G : aG} {l : Launch} {h : aH} {i n : Int32} (h0 : ¬ i < 0) (h1 : i < n) : a_Ev G l 1 mj_chk [.int i, .int n] h none h := by
  refine a_Ev.of (by decide) ⟨Nat.le_refl _, Nat.le_refl _⟩ rfl (Nat.le_of_ble_eq_true rfl) (fun z => by cases z) ?_
  show a_Rn _ _ 1 mj_chk _ _ 0 [some (.int i), some (.int n)] [] h _ h
  refine a_Rn.blk (M := mj_chk) okj_chk (show a_ch mj_chk.2.1 0 [.iload_n 0, .iload_n 1] 2 = true by decide +kernel) (show a_xs ([], [], []) 99 false (h.1.length, a_sz h.1) [.iload_n 0, .iload_n 1] [some (.int i), some (.int n)] [] h = some ([], [some (.int i), some (.int n)], [.int n, .int i], h) from rfl) trivial ?_
  refine j_fmt h0 h1 ?_
  refine a_Rn.blk (M := mj_chk) okj_chk (show a_ch mj_chk.2.1 8 [.pop] 9 = true by decide +kernel) (show a_xs ([], [], []) 99 false (h.1.length, a_sz h.1) [.pop] [some (.int i), some (.int n)] [.int i] h = some ([], [some (.int i), some (.int n)], [], h) from rfl) trivial ?_
  exact a_Rn.vret rfl (show decode mj_chk.2.1 9 = .ok (.return_, 1) by decide +kernel)
theorem j_ch : ∀ k : Nat, k < 156 → a_i2c ((a_sb.getD 0 []).getD k 0 &&& nI 255) = (a_sb.getD 0 []).getD k 0 ∧ narrow .char (.int ((a_sb.getD 0 []).getD k 0)) = .int ((a_sb.getD 0 []).getD k 0) := by decide +kernel
theorem ej_l1c {G : aG} {l : Launch} {h : aH} {i : Int32} (hin : vp_in i 156) : a_Ev G l 2 mj_l1c [.ref (1000 + (0 + 10)), .int i] h (some (.int ((a_sb.getD 0 []).getD i.toNatClampNeg 0))) h := by
  refine a_Ev.of (by decide) ⟨Nat.le_refl _, Nat.le_refl _⟩ rfl (Nat.le_of_ble_eq_true rfl) (fun z => by cases z) ?_
  have hk : i.toNatClampNeg < 156 := Nat.not_le.mp fun q => hin (Or.inr q)
  have h0 : ¬ i < 0 := fun q => hin (Or.inl q)
  have h1 : i < nI (a_sl.getD 0 0) := by
    obtain ⟨n, hn, e⟩ := nI_of h0
    rw [e, nI_clamp hn] at hk
    rw [e]
    exact nI_lt hk (by decide)
  show a_Rn _ _ 2 mj_l1c _ _ 0 [some (.ref (1000 + (0 + 10))), some (.int i)] [] h _ h
  refine a_Rn.blk (M := mj_l1c) okj_l1c (show a_ch mj_l1c.2.1 0 [.iload_n 1, .aload_n 0] 2 = true by decide +kernel) (show a_xs ([], [], []) 99 false (h.1.length, a_sz h.1) [.iload_n 1, .aload_n 0] [some (.ref (1000 + (0 + 10))), some (.int i)] [] h = some ([], [some (.ref (1000 + (0 + 10))), some (.int i)], [.ref (1000 + (0 + 10)), .int i], h) from rfl) trivial ?_
  refine j_len (o := 0) (by decide) (show decode mj_l1c.2.1 2 = .ok (.arraylength, 1) by decide +kernel) ?_
  refine a_Rn.callS (M := mj_l1c) (M' := mj_chk) (As := [.int i, .int (nI (a_sl.getD 0 0))]) (rest := []) (ej_chk h0 h1) (show decode mj_l1c.2.1 3 = .ok (.invokestatic 9, 3) by decide +kernel) (show Cond.methodLink mj_l1c.1.cls 9 yj_chk ∈ a_tb from a_tb3_at 10 rfl rfl) mwj_chk rfl (Nat.le_refl _) (Nat.le_of_ble_eq_true rfl) ⟨Nat.le_refl _, Nat.le_refl _, Nat.le_refl _, Nat.le_refl _⟩ rfl ?_
  refine a_Rn.blk (M := mj_l1c) okj_l1c (show a_ch mj_l1c.2.1 6 [.aload_n 0, .iload_n 1] 8 = true by decide +kernel) (show a_xs ([], [], []) 99 false (h.1.length, a_sz h.1) [.aload_n 0, .iload_n 1] [some (.ref (1000 + (0 + 10))), some (.int i)] [] h = some ([], [some (.ref (1000 + (0 + 10))), some (.int i)], [.int i, .ref (1000 + (0 + 10))], h) from rfl) trivial ?_
  refine j_ld (o := 0) (by decide) hin (show decode mj_l1c.2.1 8 = .ok (.baload, 1) by decide +kernel) ?_
  generalize hw : (a_sb.getD 0 []).getD i.toNatClampNeg 0 = w
  refine a_Rn.blk (M := mj_l1c) okj_l1c (show a_ch mj_l1c.2.1 9 [.sipush 255, .iand, .i2c] 14 = true by decide +kernel) (show a_xs ([], [], []) 99 false (h.1.length, a_sz h.1) [.sipush 255, .iand, .i2c] [some (.ref (1000 + (0 + 10))), some (.int i)] [.int w] h = some ([], [some (.ref (1000 + (0 + 10))), some (.int i)], [.int (a_i2c (w &&& nI 255))], h) from rfl) trivial ?_
  rw [← hw, (j_ch _ hk).1]
  exact a_Rn.zret rfl (j_ch _ hk).2 (show decode mj_l1c.2.1 14 = .ok (.ireturn, 1) by decide +kernel)
theorem ej_chr {G : aG} {l : Launch} {h : aH} {i : Int32} (hin : vp_in i 156) : a_Ev G l 5 mSchr [.ref (1000 + 0), .int i] h (some (.int ((a_sb.getD 0 []).getD i.toNatClampNeg 0))) h := by
  refine a_Ev.of (by decide) ⟨Nat.le_refl _, Nat.le_refl _⟩ rfl (Nat.le_of_ble_eq_true rfl) (fun z => by cases z) ?_
  show a_Rn _ _ 5 mSchr _ _ 0 [some (.ref (1000 + 0)), some (.int i)] [] h _ h
  refine a_Rn.blk (M := mSchr) okSchr (show a_ch mSchr.2.1 0 [.aload_n 0] 1 = true by decide +kernel) (show a_xs ([], [], []) 99 false (h.1.length, a_sz h.1) [.aload_n 0] [some (.ref (1000 + 0)), some (.int i)] [] h = some ([], [some (.ref (1000 + 0)), some (.int i)], [.ref (1000 + 0)], h) from rfl) trivial ?_
  refine a_Rn.callX (M := mSchr) (M' := mj_lat) (o := 0) (As := []) (rest := []) (ej_lat (by decide)) (show decode mSchr.2.1 1 = .ok (.invokevirtual 492, 3) by decide +kernel) (show Cond.methodLink mSchr.1.cls 492 yj_lat ∈ a_tb from a_tb3_at 3 rfl rfl) mwj_lat (by decide) rfl rfl (by decide) (Nat.le_of_ble_eq_true rfl) ⟨Nat.le_refl _, Nat.le_refl _, Nat.le_refl _, Nat.le_refl _⟩ rfl ?_
  refine a_Rn.ifc (show decode mSchr.2.1 4 = .ok (.ifCond .eq 12, 3) by decide +kernel) (show ((4 : Nat) : Int) + 12 = ((16 : Nat) : Int) by decide) (fun z => absurd z (show ¬ (nI 1 : Int32) = 0 by decide)) (fun _ => ?_)
  refine a_Rn.blk (M := mSchr) okSchr (show a_ch mSchr.2.1 7 [.aload_n 0] 8 = true by decide +kernel) (show a_xs ([], [], []) 99 false (h.1.length, a_sz h.1) [.aload_n 0] [some (.ref (1000 + 0)), some (.int i)] [] h = some ([], [some (.ref (1000 + 0)), some (.int i)], [.ref (1000 + 0)], h) from rfl) trivial ?_
  refine j_val (M := mSchr) (o := 0) (by decide) (by exact a_tb9_at 40 rfl rfl) (show decode mSchr.2.1 8 = .ok (.getfield 9, 3) by decide +kernel) ?_
  refine a_Rn.blk (M := mSchr) okSchr (show a_ch mSchr.2.1 11 [.iload_n 1] 12 = true by decide +kernel) (show a_xs ([], [], []) 99 false (h.1.length, a_sz h.1) [.iload_n 1] [some (.ref (1000 + 0)), some (.int i)] [.ref (1000 + (0 + 10))] h = some ([], [some (.ref (1000 + 0)), some (.int i)], [.int i, .ref (1000 + (0 + 10))], h) from rfl) trivial ?_
  refine a_Rn.callS (M := mSchr) (M' := mj_l1c) (As := [.ref (1000 + (0 + 10)), .int i]) (rest := []) (ej_l1c hin) (show decode mSchr.2.1 12 = .ok (.invokestatic 495, 3) by decide +kernel) (show Cond.methodLink mSchr.1.cls 495 yj_l1c ∈ a_tb from a_tb3_at 7 rfl rfl) mwj_l1c rfl (by decide) (Nat.le_of_ble_eq_true rfl) ⟨Nat.le_refl _, Nat.le_refl _, Nat.le_refl _, Nat.le_refl _⟩ rfl ?_
  exact a_Rn.zret rfl (j_ch _ (Nat.not_le.mp fun q => hin (Or.inr q))).2 (show decode mSchr.2.1 15 = .ok (.ireturn, 1) by decide +kernel)
theorem ej_enc {G : aG} {l : Launch} {h : aH} {x : Int32} (h0 : ¬ x < 0) (h1 : ¬ nI 255 < x) : a_Ev G l 0 mj_enc [.int x] h (some (.int (nI 1))) h := by
  refine a_Ev.of (by decide) ⟨Nat.le_refl _, Nat.le_refl _⟩ rfl (Nat.le_of_ble_eq_true rfl) (fun z => by cases z) ?_
  show a_Rn _ _ 0 mj_enc _ _ 0 [some (.int x)] [] h _ h
  refine a_Rn.blk (M := mj_enc) okj_enc (show a_ch mj_enc.2.1 0 [.iload_n 0] 1 = true by decide +kernel) (show a_xs ([], [], []) 99 false (h.1.length, a_sz h.1) [.iload_n 0] [some (.int x)] [] h = some ([], [some (.int x)], [.int x], h) from rfl) trivial ?_
  refine a_Rn.ifc (show decode mj_enc.2.1 1 = .ok (.ifCond .lt 14, 3) by decide +kernel) (show ((1 : Nat) : Int) + 14 = ((15 : Nat) : Int) by decide) (fun z => absurd z h0) (fun _ => ?_)
  refine a_Rn.blk (M := mj_enc) okj_enc (show a_ch mj_enc.2.1 4 [.iload_n 0, .sipush 255] 8 = true by decide +kernel) (show a_xs ([], [], []) 99 false (h.1.length, a_sz h.1) [.iload_n 0, .sipush 255] [some (.int x)] [] h = some ([], [some (.int x)], [.int (nI 255), .int x], h) from rfl) trivial ?_
  refine a_Rn.icmp (show decode mj_enc.2.1 8 = .ok (.if_icmp .gt 7, 3) by decide +kernel) (show ((8 : Nat) : Int) + 7 = ((15 : Nat) : Int) by decide) (fun z => absurd z h1) (fun _ => ?_)
  refine a_Rn.blk (M := mj_enc) okj_enc (show a_ch mj_enc.2.1 11 [.iconst 1] 12 = true by decide +kernel) (show a_xs ([], [], []) 99 false (h.1.length, a_sz h.1) [.iconst 1] [some (.int x)] [] h = some ([], [some (.int x)], [.int (nI 1)], h) from rfl) trivial ?_
  refine a_Rn.goto (show decode mj_enc.2.1 12 = .ok (.goto 4, 3) by decide +kernel) (show ((12 : Nat) : Int) + 4 = ((16 : Nat) : Int) by decide) ?_
  exact a_Rn.zret rfl rfl (show decode mj_enc.2.1 16 = .ok (.ireturn, 1) by decide +kernel)
def j_tx : List Int32 := a_sb.getD 1 []
theorem j_txd : ∀ k : Nat, k < 11 → j_tx.drop k = j_tx.getD k 0 :: j_tx.drop (k + 1) := by decide +kernel
theorem j_txc : ∀ n : Nat, n < 256 → ∀ k : Nat, k < 11 → (j_tx.getD k 0 = (nI n).toInt8.toInt32 ↔ j_tx.getD k 0 = nI n) := by decide +kernel
theorem j_ioc {G : aG} {l : Launch} {h : aH} {n0 z0 : Nat} {x : Int32} (hc : ∀ k : Nat, k < 11 → (j_tx.getD k 0 = x.toInt8.toInt32 ↔ j_tx.getD k 0 = x)) : ∀ w k : Nat, k + w = 11 → a_Rn G l 0 mj_ioc n0 z0 7 [some (.ref (1000 + (1 + 10))), some (.int x), some (.int 0), some (.int (nI 11)), some (.int x.toInt8.toInt32), some (.int (nI k))] [] h (some (.int (a_fst x (j_tx.drop k) k))) h
  | 0, k, hk => by
    have e : k = 11 := by omega
    subst e
    generalize x.toInt8.toInt32 = y
    refine a_Rn.blk (M := mj_ioc) okj_ioc (show a_ch mj_ioc.2.1 7 [.iload 5, .iload_n 3] 10 = true by decide +kernel) (show a_xs ([], [], []) 99 false (h.1.length, a_sz h.1) [.iload 5, .iload_n 3] [some (.ref (1000 + (1 + 10))), some (.int x), some (.int 0), some (.int (nI 11)), some (.int y), some (.int (nI 11))] [] h = some ([], [some (.ref (1000 + (1 + 10))), some (.int x), some (.int 0), some (.int (nI 11)), some (.int y), some (.int (nI 11))], [.int (nI 11), .int (nI 11)], h) from rfl) trivial ?_
    refine a_Rn.icmp (show decode mj_ioc.2.1 10 = .ok (.if_icmp .ge 21, 3) by decide +kernel) (show ((10 : Nat) : Int) + 21 = ((31 : Nat) : Int) by decide) (fun _ => ?_) (fun z => absurd (show nI 11 ≤ nI 11 by decide) z)
    refine a_Rn.blk (M := mj_ioc) okj_ioc (show a_ch mj_ioc.2.1 31 [.iconst (-1)] 32 = true by decide +kernel) (show a_xs ([], [], []) 99 false (h.1.length, a_sz h.1) [.iconst (-1)] [some (.ref (1000 + (1 + 10))), some (.int x), some (.int 0), some (.int (nI 11)), some (.int y), some (.int (nI 11))] [] h = some ([], [some (.ref (1000 + (1 + 10))), some (.int x), some (.int 0), some (.int (nI 11)), some (.int y), some (.int (nI 11))], [.int (a_i (-1))], h) from rfl) trivial ?_
    exact a_Rn.iret rfl (show decode mj_ioc.2.1 32 = .ok (.ireturn, 1) by decide +kernel)
  | w + 1, k, hk => by
    have ih := j_ioc (G := G) (l := l) (h := h) (n0 := n0) (z0 := z0) hc w (k + 1) (by omega)
    have h5 := hc k (by omega)
    rw [j_txd k (by omega)]
    have h6 : (a_sb.getD 1 []).getD (nI k).toNatClampNeg 0 = j_tx.getD k 0 := by rw [nI_clamp (by omega)]; rfl
    have h7 : a_fst x (j_tx.getD k 0 :: j_tx.drop (k + 1)) k = if j_tx.getD k 0 = x then nI k else a_fst x (j_tx.drop (k + 1)) (k + 1) := rfl
    rw [h7]
    generalize x.toInt8.toInt32 = y at ih h5 ⊢
    refine a_Rn.blk (M := mj_ioc) okj_ioc (show a_ch mj_ioc.2.1 7 [.iload 5, .iload_n 3] 10 = true by decide +kernel) (show a_xs ([], [], []) 99 false (h.1.length, a_sz h.1) [.iload 5, .iload_n 3] [some (.ref (1000 + (1 + 10))), some (.int x), some (.int 0), some (.int (nI 11)), some (.int y), some (.int (nI k))] [] h = some ([], [some (.ref (1000 + (1 + 10))), some (.int x), some (.int 0), some (.int (nI 11)), some (.int y), some (.int (nI k))], [.int (nI 11), .int (nI k)], h) from rfl) trivial ?_
    refine a_Rn.icmp (show decode mj_ioc.2.1 10 = .ok (.if_icmp .ge 21, 3) by decide +kernel) (show ((10 : Nat) : Int) + 21 = ((31 : Nat) : Int) by decide) (fun z => absurd z (nI_ge (by omega) (by decide))) (fun _ => ?_)
    refine a_Rn.blk (M := mj_ioc) okj_ioc (show a_ch mj_ioc.2.1 13 [.aload_n 0, .iload 5] 16 = true by decide +kernel) (show a_xs ([], [], []) 99 false (h.1.length, a_sz h.1) [.aload_n 0, .iload 5] [some (.ref (1000 + (1 + 10))), some (.int x), some (.int 0), some (.int (nI 11)), some (.int y), some (.int (nI k))] [] h = some ([], [some (.ref (1000 + (1 + 10))), some (.int x), some (.int 0), some (.int (nI 11)), some (.int y), some (.int (nI k))], [.int (nI k), .ref (1000 + (1 + 10))], h) from rfl) trivial ?_
    refine j_ld (o := 1) (by decide) (show vp_in (nI k) 11 from vp_in_nI (by omega) (by decide)) (show decode mj_ioc.2.1 16 = .ok (.baload, 1) by decide +kernel) ?_
    rw [h6]
    generalize j_tx.getD k 0 = v at h5 ⊢
    refine a_Rn.blk (M := mj_ioc) okj_ioc (show a_ch mj_ioc.2.1 17 [.iload 4] 19 = true by decide +kernel) (show a_xs ([], [], []) 99 false (h.1.length, a_sz h.1) [.iload 4] [some (.ref (1000 + (1 + 10))), some (.int x), some (.int 0), some (.int (nI 11)), some (.int y), some (.int (nI k))] [.int v] h = some ([], [some (.ref (1000 + (1 + 10))), some (.int x), some (.int 0), some (.int (nI 11)), some (.int y), some (.int (nI k))], [.int y, .int v], h) from rfl) trivial ?_
    refine a_Rn.icmp (show decode mj_ioc.2.1 19 = .ok (.if_icmp .ne 6, 3) by decide +kernel) (show ((19 : Nat) : Int) + 6 = ((25 : Nat) : Int) by decide) (fun z => ?_) (fun z => ?_)
    · rw [if_neg (show ¬v = x from fun q => z (h5.mpr q))]
      refine a_Rn.blk (M := mj_ioc) okj_ioc (show a_ch mj_ioc.2.1 25 [.iinc 5 1] 28 = true by decide +kernel) (show a_xs ([], [], []) 99 false (h.1.length, a_sz h.1) [.iinc 5 1] [some (.ref (1000 + (1 + 10))), some (.int x), some (.int 0), some (.int (nI 11)), some (.int y), some (.int (nI k))] [] h = some ([], [some (.ref (1000 + (1 + 10))), some (.int x), some (.int 0), some (.int (nI 11)), some (.int y), some (.int (nI k + nI 1))], [], h) from rfl) trivial ?_
      refine a_Rn.goto (show decode mj_ioc.2.1 28 = .ok (.goto (-21), 3) by decide +kernel) (show ((28 : Nat) : Int) + (-21) = ((7 : Nat) : Int) by decide) ?_
      rw [nI_add]
      exact ih
    · rw [if_pos (show v = x from h5.mp (Classical.byContradiction z))]
      refine a_Rn.blk (M := mj_ioc) okj_ioc (show a_ch mj_ioc.2.1 22 [.iload 5] 24 = true by decide +kernel) (show a_xs ([], [], []) 99 false (h.1.length, a_sz h.1) [.iload 5] [some (.ref (1000 + (1 + 10))), some (.int x), some (.int 0), some (.int (nI 11)), some (.int y), some (.int (nI k))] [] h = some ([], [some (.ref (1000 + (1 + 10))), some (.int x), some (.int 0), some (.int (nI 11)), some (.int y), some (.int (nI k))], [.int (nI k)], h) from rfl) trivial ?_
      exact a_Rn.iret rfl (show decode mj_ioc.2.1 24 = .ok (.ireturn, 1) by decide +kernel)
theorem ej_ioc {G : aG} {l : Launch} {h : aH} {x : Int32} (hc : ∀ k : Nat, k < 11 → (j_tx.getD k 0 = x.toInt8.toInt32 ↔ j_tx.getD k 0 = x)) : a_Ev G l 0 mj_ioc [.ref (1000 + (1 + 10)), .int x, .int 0, .int (nI 11)] h (some (.int (a_fst x j_tx 0))) h := by
  refine a_Ev.of (by decide) ⟨Nat.le_refl _, Nat.le_refl _⟩ rfl (Nat.le_of_ble_eq_true rfl) (fun z => by cases z) ?_
  have key := j_ioc (G := G) (l := l) (h := h) (n0 := h.1.length) (z0 := a_sz h.1) hc 11 0 rfl
  show a_Rn _ _ 0 mj_ioc _ _ 0 [some (.ref (1000 + (1 + 10))), some (.int x), some (.int 0), some (.int (nI 11)), none, none] [] h _ h
  refine a_Rn.blk (M := mj_ioc) okj_ioc (show a_ch mj_ioc.2.1 0 [.iload_n 1] 1 = true by decide +kernel) (show a_xs ([], [], []) 99 false (h.1.length, a_sz h.1) [.iload_n 1] [some (.ref (1000 + (1 + 10))), some (.int x), some (.int 0), some (.int (nI 11)), none, none] [] h = some ([], [some (.ref (1000 + (1 + 10))), some (.int x), some (.int 0), some (.int (nI 11)), none, none], [.int x], h) from rfl) trivial ?_
  refine j_i2b (show decode mj_ioc.2.1 1 = .ok (.i2b, 1) by decide +kernel) ?_
  generalize x.toInt8.toInt32 = y at key ⊢
  refine a_Rn.blk (M := mj_ioc) okj_ioc (show a_ch mj_ioc.2.1 2 [.istore 4, .iload_n 2, .istore 5] 7 = true by decide +kernel) (show a_xs ([], [], []) 99 false (h.1.length, a_sz h.1) [.istore 4, .iload_n 2, .istore 5] [some (.ref (1000 + (1 + 10))), some (.int x), some (.int 0), some (.int (nI 11)), none, none] [.int y] h = some ([], [some (.ref (1000 + (1 + 10))), some (.int x), some (.int 0), some (.int (nI 11)), some (.int y), some (.int 0)], [], h) from rfl) trivial ?_
  exact key
theorem ej_l1i {G : aG} {l : Launch} {h : aH} {x : Int32} (h0 : ¬ x < 0) (h1 : ¬ nI 255 < x) (hc : ∀ k : Nat, k < 11 → (j_tx.getD k 0 = x.toInt8.toInt32 ↔ j_tx.getD k 0 = x)) : a_Ev G l 1 mj_l1i [.ref (1000 + (1 + 10)), .int x, .int 0, .int (nI 11)] h (some (.int (a_fst x j_tx 0))) h := by
  refine a_Ev.of (by decide) ⟨Nat.le_refl _, Nat.le_refl _⟩ rfl (Nat.le_of_ble_eq_true rfl) (fun z => by cases z) ?_
  have e1 : a_max 0 (nI 0) = 0 := by decide
  have e2 : a_min (nI 11) (nI 11) = nI 11 := by decide
  show a_Rn _ _ 1 mj_l1i _ _ 0 [some (.ref (1000 + (1 + 10))), some (.int x), some (.int 0), some (.int (nI 11))] [] h _ h
  refine a_Rn.blk (M := mj_l1i) okj_l1i (show a_ch mj_l1i.2.1 0 [.iload_n 1] 1 = true by decide +kernel) (show a_xs ([], [], [(92, 0), (38, 1)]) 99 false (h.1.length, a_sz h.1) [.iload_n 1] [some (.ref (1000 + (1 + 10))), some (.int x), some (.int 0), some (.int (nI 11))] [] h = some ([], [some (.ref (1000 + (1 + 10))), some (.int x), some (.int 0), some (.int (nI 11))], [.int x], h) from rfl) trivial ?_
  refine a_Rn.callS (M := mj_l1i) (M' := mj_enc) (As := [.int x]) (rest := []) (ej_enc h0 h1) (show decode mj_l1i.2.1 1 = .ok (.invokestatic 88, 3) by decide +kernel) (show Cond.methodLink mj_l1i.1.cls 88 yj_enc ∈ a_tb from a_tb3_at 60 rfl rfl) mwj_enc rfl (Nat.le_refl _) (Nat.le_of_ble_eq_true rfl) ⟨Nat.le_refl _, Nat.le_refl _, Nat.le_refl _, Nat.le_refl _⟩ rfl ?_
  refine a_Rn.ifc (show decode mj_l1i.2.1 4 = .ok (.ifCond .ne 5, 3) by decide +kernel) (show ((4 : Nat) : Int) + 5 = ((9 : Nat) : Int) by decide) (fun _ => ?_) (fun z => absurd (show ¬ (nI 1 : Int32) = 0 by decide) z)
  refine a_Rn.blk (M := mj_l1i) okj_l1i (show a_ch mj_l1i.2.1 9 [.iload_n 2, .iconst 0, .invokestatic 92, .istore_n 2, .iload_n 3, .aload_n 0] 17 = true by decide +kernel) (show a_xs ([], [], [(92, 0), (38, 1)]) 99 false (h.1.length, a_sz h.1) [.iload_n 2, .iconst 0, .invokestatic 92, .istore_n 2, .iload_n 3, .aload_n 0] [some (.ref (1000 + (1 + 10))), some (.int x), some (.int 0), some (.int (nI 11))] [] h = some ([], [some (.ref (1000 + (1 + 10))), some (.int x), some (.int (a_max 0 (nI 0))), some (.int (nI 11))], [.ref (1000 + (1 + 10)), .int (nI 11)], h) from rfl) trivial ?_
  rw [e1]
  refine j_len (o := 1) (by decide) (show decode mj_l1i.2.1 17 = .ok (.arraylength, 1) by decide +kernel) ?_
  show a_Rn _ _ 1 mj_l1i _ _ 18 [some (.ref (1000 + (1 + 10))), some (.int x), some (.int 0), some (.int (nI 11))] [.int (nI 11), .int (nI 11)] h _ h
  refine a_Rn.blk (M := mj_l1i) okj_l1i (show a_ch mj_l1i.2.1 18 [.invokestatic 38, .istore_n 3] 22 = true by decide +kernel) (show a_xs ([], [], [(92, 0), (38, 1)]) 99 false (h.1.length, a_sz h.1) [.invokestatic 38, .istore_n 3] [some (.ref (1000 + (1 + 10))), some (.int x), some (.int 0), some (.int (nI 11))] [.int (nI 11), .int (nI 11)] h = some ([], [some (.ref (1000 + (1 + 10))), some (.int x), some (.int 0), some (.int (a_min (nI 11) (nI 11)))], [], h) from rfl) trivial ?_
  rw [e2]
  refine a_Rn.blk (M := mj_l1i) okj_l1i (show a_ch mj_l1i.2.1 22 [.iload_n 2, .iload_n 3] 24 = true by decide +kernel) (show a_xs ([], [], [(92, 0), (38, 1)]) 99 false (h.1.length, a_sz h.1) [.iload_n 2, .iload_n 3] [some (.ref (1000 + (1 + 10))), some (.int x), some (.int 0), some (.int (nI 11))] [] h = some ([], [some (.ref (1000 + (1 + 10))), some (.int x), some (.int 0), some (.int (nI 11))], [.int (nI 11), .int 0], h) from rfl) trivial ?_
  refine a_Rn.icmp (show decode mj_l1i.2.1 24 = .ok (.if_icmp .lt 5, 3) by decide +kernel) (show ((24 : Nat) : Int) + 5 = ((29 : Nat) : Int) by decide) (fun _ => ?_) (fun z => absurd (show (0 : Int32) < nI 11 by decide) z)
  refine a_Rn.blk (M := mj_l1i) okj_l1i (show a_ch mj_l1i.2.1 29 [.aload_n 0, .iload_n 1, .iload_n 2, .iload_n 3] 33 = true by decide +kernel) (show a_xs ([], [], [(92, 0), (38, 1)]) 99 false (h.1.length, a_sz h.1) [.aload_n 0, .iload_n 1, .iload_n 2, .iload_n 3] [some (.ref (1000 + (1 + 10))), some (.int x), some (.int 0), some (.int (nI 11))] [] h = some ([], [some (.ref (1000 + (1 + 10))), some (.int x), some (.int 0), some (.int (nI 11))], [.int (nI 11), .int 0, .int x, .ref (1000 + (1 + 10))], h) from rfl) trivial ?_
  refine a_Rn.callS (M := mj_l1i) (M' := mj_ioc) (As := [.ref (1000 + (1 + 10)), .int x, .int 0, .int (nI 11)]) (rest := []) (ej_ioc hc) (show decode mj_l1i.2.1 33 = .ok (.invokestatic 95, 3) by decide +kernel) (show Cond.methodLink mj_l1i.1.cls 95 yj_ioc ∈ a_tb from a_tb3_at 65 rfl rfl) mwj_ioc rfl (Nat.le_refl _) (Nat.le_of_ble_eq_true rfl) ⟨Nat.le_refl _, Nat.le_refl _, Nat.le_refl _, Nat.le_refl _⟩ rfl ?_
  exact a_Rn.iret rfl (show decode mj_l1i.2.1 36 = .ok (.ireturn, 1) by decide +kernel)
theorem ej_ix2 {G : aG} {l : Launch} {h : aH} {x : Int32} (h0 : ¬ x < 0) (h1 : ¬ nI 255 < x) (hc : ∀ k : Nat, k < 11 → (j_tx.getD k 0 = x.toInt8.toInt32 ↔ j_tx.getD k 0 = x)) : a_Ev G l 2 mj_ix2 [.ref (1000 + 1), .int x, .int 0] h (some (.int (a_fst x j_tx 0))) h := by
  refine a_Ev.of (by decide) ⟨Nat.le_refl _, Nat.le_refl _⟩ rfl (Nat.le_of_ble_eq_true rfl) (fun z => by cases z) ?_
  show a_Rn _ _ 2 mj_ix2 _ _ 0 [some (.ref (1000 + 1)), some (.int x), some (.int 0)] [] h _ h
  refine a_Rn.blk (M := mj_ix2) okj_ix2 (show a_ch mj_ix2.2.1 0 [.aload_n 0] 1 = true by decide +kernel) (show a_xs ([], [], []) 99 false (h.1.length, a_sz h.1) [.aload_n 0] [some (.ref (1000 + 1)), some (.int x), some (.int 0)] [] h = some ([], [some (.ref (1000 + 1)), some (.int x), some (.int 0)], [.ref (1000 + 1)], h) from rfl) trivial ?_
  refine a_Rn.callX (M := mj_ix2) (M' := mj_lat) (o := 1) (As := []) (rest := []) (ej_lat (by decide)) (show decode mj_ix2.2.1 1 = .ok (.invokevirtual 492, 3) by decide +kernel) (show Cond.methodLink mj_ix2.1.cls 492 yj_lat ∈ a_tb from a_tb3_at 3 rfl rfl) mwj_lat (by decide) rfl rfl (by decide) (Nat.le_of_ble_eq_true rfl) ⟨Nat.le_refl _, Nat.le_refl _, Nat.le_refl _, Nat.le_refl _⟩ rfl ?_
  refine a_Rn.ifc (show decode mj_ix2.2.1 4 = .ok (.ifCond .eq 19, 3) by decide +kernel) (show ((4 : Nat) : Int) + 19 = ((23 : Nat) : Int) by decide) (fun z => absurd z (show ¬ (nI 1 : Int32) = 0 by decide)) (fun _ => ?_)
  refine a_Rn.blk (M := mj_ix2) okj_ix2 (show a_ch mj_ix2.2.1 7 [.aload_n 0] 8 = true by decide +kernel) (show a_xs ([], [], []) 99 false (h.1.length, a_sz h.1) [.aload_n 0] [some (.ref (1000 + 1)), some (.int x), some (.int 0)] [] h = some ([], [some (.ref (1000 + 1)), some (.int x), some (.int 0)], [.ref (1000 + 1)], h) from rfl) trivial ?_
  refine j_val (M := mj_ix2) (o := 1) (by decide) (by exact a_tb9_at 40 rfl rfl) (show decode mj_ix2.2.1 8 = .ok (.getfield 9, 3) by decide +kernel) ?_
  refine a_Rn.blk (M := mj_ix2) okj_ix2 (show a_ch mj_ix2.2.1 11 [.iload_n 1, .iload_n 2, .aload_n 0] 14 = true by decide +kernel) (show a_xs ([], [], []) 99 false (h.1.length, a_sz h.1) [.iload_n 1, .iload_n 2, .aload_n 0] [some (.ref (1000 + 1)), some (.int x), some (.int 0)] [.ref (1000 + (1 + 10))] h = some ([], [some (.ref (1000 + 1)), some (.int x), some (.int 0)], [.ref (1000 + 1), .int 0, .int x, .ref (1000 + (1 + 10))], h) from rfl) trivial ?_
  refine a_Rn.callX (M := mj_ix2) (M' := mSlen) (o := 1) (As := []) (rest := [.int 0, .int x, .ref (1000 + (1 + 10))]) (ej_len (by decide)) (show decode mj_ix2.2.1 14 = .ok (.invokevirtual 505, 3) by decide +kernel) (show Cond.methodLink mj_ix2.1.cls 505 ySlen ∈ a_tb from a_tb3_at 56 rfl rfl) mwSlen (by decide) rfl rfl (by decide) (Nat.le_of_ble_eq_true rfl) ⟨Nat.le_refl _, Nat.le_refl _, Nat.le_refl _, Nat.le_refl _⟩ rfl ?_
  refine a_Rn.callS (M := mj_ix2) (M' := mj_l1i) (As := [.ref (1000 + (1 + 10)), .int x, .int 0, .int (nI 11)]) (rest := []) (ej_l1i h0 h1 hc) (show decode mj_ix2.2.1 17 = .ok (.invokestatic 637, 3) by decide +kernel) (show Cond.methodLink mj_ix2.1.cls 637 yj_l1i ∈ a_tb from a_tb3_at 57 rfl rfl) mwj_l1i rfl (by decide) (Nat.le_of_ble_eq_true rfl) ⟨Nat.le_refl _, Nat.le_refl _, Nat.le_refl _, Nat.le_refl _⟩ rfl ?_
  refine a_Rn.goto (show decode mj_ix2.2.1 20 = .ok (.goto 16, 3) by decide +kernel) (show ((20 : Nat) : Int) + 16 = ((36 : Nat) : Int) by decide) ?_
  exact a_Rn.iret rfl (show decode mj_ix2.2.1 36 = .ok (.ireturn, 1) by decide +kernel)
theorem ej_idx {G : aG} {l : Launch} {h : aH} {x : Int32} (h0 : ¬ x < 0) (h1 : ¬ nI 255 < x) (hc : ∀ k : Nat, k < 11 → (j_tx.getD k 0 = x.toInt8.toInt32 ↔ j_tx.getD k 0 = x)) : a_Ev G l 5 mSidx [.ref (1000 + 1), .int x] h (some (.int (a_fst x j_tx 0))) h := by
  refine a_Ev.of (by decide) ⟨Nat.le_refl _, Nat.le_refl _⟩ rfl (Nat.le_of_ble_eq_true rfl) (fun z => by cases z) ?_
  show a_Rn _ _ 5 mSidx _ _ 0 [some (.ref (1000 + 1)), some (.int x)] [] h _ h
  refine a_Rn.blk (M := mSidx) okSidx (show a_ch mSidx.2.1 0 [.aload_n 0, .iload_n 1, .iconst 0] 3 = true by decide +kernel) (show a_xs ([], [], []) 99 false (h.1.length, a_sz h.1) [.aload_n 0, .iload_n 1, .iconst 0] [some (.ref (1000 + 1)), some (.int x)] [] h = some ([], [some (.ref (1000 + 1)), some (.int x)], [.int (nI 0), .int x, .ref (1000 + 1)], h) from rfl) trivial ?_
  refine a_Rn.callX (M := mSidx) (M' := mj_ix2) (o := 1) (As := [.int x, .int 0]) (rest := []) (ej_ix2 h0 h1 hc) (show decode mSidx.2.1 3 = .ok (.invokevirtual 633, 3) by decide +kernel) (show Cond.methodLink mSidx.1.cls 633 yj_ix2 ∈ a_tb from a_tb3_at 52 rfl rfl) mwj_ix2 (by decide) rfl rfl (by decide) (Nat.le_of_ble_eq_true rfl) ⟨Nat.le_refl _, Nat.le_refl _, Nat.le_refl _, Nat.le_refl _⟩ rfl ?_
  exact a_Rn.iret rfl (show decode mSidx.2.1 6 = .ok (.ireturn, 1) by decide +kernel)
theorem ej_len5 {G : aG} {l : Launch} {h : aH} : a_Ev G l 5 mSlen [.ref (1000 + 0)] h (some (.int (nI 156))) h := ej_lenD (o := 0) (by decide) (by decide)
theorem evSlen {Γ : aG × Launch} {d : aI} {e : aJ} {q : Int32 × aI × aJ} (h : FSlen d e = some q) : Ev Γ 5 mSlen [.ref 1000] d e (some (.int q.1)) q.2.1 q.2.2 := by
  cases h
  exact ej_len5
theorem evSchr {Γ : aG × Launch} {d : aI} {e : aJ} {i : Int32} {q : Int32 × aI × aJ} (h : FSchr d e i = some q) : Ev Γ 5 mSchr [.ref 1000, .int i] d e (some (.int q.1)) q.2.1 q.2.2 := by
  unfold FSchr at h
  obtain ⟨z, h⟩ := a_cond h
  cases h
  have hin : ¬ (i < 0 ∨ 156 ≤ i.toNatClampNeg) := of_decide_eq_true z
  exact ej_chr hin
theorem evSidx {Γ : aG × Launch} {d : aI} {e : aJ} {x : Int32} {q : Int32 × aI × aJ} (h : FSidx d e x = some q) : Ev Γ 5 mSidx [.ref 1001, .int x] d e (some (.int q.1)) q.2.1 q.2.2 := by
  unfold FSidx at h
  obtain ⟨z, h⟩ := a_cond h
  cases h
  have hin := of_decide_eq_true z
  have h0 : ¬ x < 0 := fun q => hin (Or.inl q)
  have hk : x.toNatClampNeg < 256 := Nat.not_le.mp fun q => hin (Or.inr q)
  obtain ⟨n, hn, e⟩ := nI_of h0
  subst e
  rw [nI_clamp hn] at hk
  exact ej_idx h0 (nI_nlt (by omega) (by decide)) (j_txc n hk)
theorem jX4_settle_50 {Γ : aG × Launch} {dp : Nat} {x2 : Int32} {x3 : Int32} {v4 : Option Value} {s1 : Int32} {s2 : Int32} {d dF : aI} {e eF : aJ} {r : Option Value} {dc : Nat} {rv : Int32} {d2 : aI} {e2 : aJ} (ev : Ev Γ dc mX12_bitCount [.int s2] d e (some (.int rv)) d2 e2) (hdd : dc + 1 ≤ dp) (k : Rn Γ dp mX4_settle 53 [some (.ref 95), some (.ref 2), some (.int x2), some (.int x3), v4] (.int rv :: [.int s1, .ref 96]) d2 e2 r dF eF) : Rn Γ dp mX4_settle 50 [some (.ref 95), some (.ref 2), some (.int x2), some (.int x3), v4] [.int s2, .int s1, .ref 96] d e r dF eF :=
  a_Rn.callS (M := mX4_settle) (M' := mX12_bitCount) (As := [.int s2]) (rest := [.int s1, .ref 96]) ev (show decode cX4_settle 50 = .ok (.invokestatic 48, 3) by decide +kernel) (show Cond.methodLink RX4 48 yX12_bitCount ∈ a_tb from a_tb5_at 7 rfl rfl) mwX12_bitCount rfl hdd (Nat.le_of_ble_eq_true rfl) ⟨Nat.le_refl _, Nat.le_refl _, Nat.le_refl _, Nat.le_refl _⟩ rfl k
theorem jX4_least_1 {Γ : aG × Launch} {dp : Nat} {x2 : Int32} {x3 : Int32} {v4 : Option Value} {v5 : Option Value} {v6 : Option Value} {s0 : Int32} {d dF : aI} {e eF : aJ} {r : Option Value} {dc : Nat} {rv : Int32} {d2 : aI} {e2 : aJ} (ev : Ev Γ dc mX12_bitCount [.int s0] d e (some (.int rv)) d2 e2) (hdd : dc + 1 ≤ dp) (k : Rn Γ dp mX4_least 4 [some (.ref 95), some (.ref 2), some (.int x2), some (.int x3), v4, v5, v6] (.int rv :: []) d2 e2 r dF eF) : Rn Γ dp mX4_least 1 [some (.ref 95), some (.ref 2), some (.int x2), some (.int x3), v4, v5, v6] [.int s0] d e r dF eF :=
  a_Rn.callS (M := mX4_least) (M' := mX12_bitCount) (As := [.int s0]) (rest := []) ev (show decode cX4_least 1 = .ok (.invokestatic 48, 3) by decide +kernel) (show Cond.methodLink RX4 48 yX12_bitCount ∈ a_tb from a_tb5_at 7 rfl rfl) mwX12_bitCount rfl hdd (Nat.le_of_ble_eq_true rfl) ⟨Nat.le_refl _, Nat.le_refl _, Nat.le_refl _, Nat.le_refl _⟩ rfl k
theorem jX5_scanToken_132 {Γ : aG × Launch} {dp : Nat} {x1 : Int32} {x2 : Int32} {x3 : Int32} {s1 : Int32} {s3 : Int32} {d dF : aI} {e eF : aJ} {r : Option Value} {dc : Nat} {rv : Int32} {d2 : aI} {e2 : aJ} (ev : Ev Γ dc mSidx [.ref 1001, .int s3] d e (some (.int rv)) d2 e2) (hdd : dc + 1 ≤ dp) (k : Rn Γ dp mX5_scanToken 135 [some (.ref 83), some (.int x1), some (.int x2), some (.int x3)] (.int rv :: [.int s1, .ref 85]) d2 e2 r dF eF) : Rn Γ dp mX5_scanToken 132 [some (.ref 83), some (.int x1), some (.int x2), some (.int x3)] [.int s3, .ref 1001, .int s1, .ref 85] d e r dF eF :=
  a_Rn.callX (M := mX5_scanToken) (M' := mSidx) (o := 1) (As := [.int s3]) (rest := [.int s1, .ref 85]) ev (show decode cX5_scanToken 132 = .ok (.invokevirtual 78, 3) by decide +kernel) (show Cond.methodLink RX5 78 ySidx ∈ a_tb from a_tb3_at 48 rfl rfl) mwSidx (by decide) rfl rfl hdd (Nat.le_of_ble_eq_true rfl) ⟨Nat.le_refl _, Nat.le_refl _, Nat.le_refl _, Nat.le_refl _⟩ rfl k
theorem jX5_scanWord_43 {Γ : aG × Launch} {dp : Nat} {x1 : Int32} {x2 : Int32} {x3 : Int32} {s0 : Int32} {d dF : aI} {e eF : aJ} {r : Option Value} {dc : Nat} {rv : Int32} {d2 : aI} {e2 : aJ} (ev : Ev Γ dc mSlen [.ref 1000] d e (some (.int rv)) d2 e2) (hdd : dc + 1 ≤ dp) (k : Rn Γ dp mX5_scanWord 46 [some (.ref 83), some (.int x1), some (.int x2), some (.int x3)] (.int rv :: [.int s0]) d2 e2 r dF eF) : Rn Γ dp mX5_scanWord 43 [some (.ref 83), some (.int x1), some (.int x2), some (.int x3)] [.ref 1000, .int s0] d e r dF eF :=
  a_Rn.callX (M := mX5_scanWord) (M' := mSlen) (o := 0) (As := []) (rest := [.int s0]) ev (show decode cX5_scanWord 43 = .ok (.invokevirtual 85, 3) by decide +kernel) (show Cond.methodLink RX5 85 ySlen ∈ a_tb from a_tb2_at 225 rfl rfl) mwSlen (by decide) rfl rfl hdd (Nat.le_of_ble_eq_true rfl) ⟨Nat.le_refl _, Nat.le_refl _, Nat.le_refl _, Nat.le_refl _⟩ rfl k
theorem jX5_isWord_39 {Γ : aG × Launch} {dp : Nat} {x1 : Int32} {x2 : Int32} {x3 : Int32} {x4 : Int32} {x5 : Int32} {s0 : Int32} {s2 : Int32} {d dF : aI} {e eF : aJ} {r : Option Value} {dc : Nat} {rv : Int32} {d2 : aI} {e2 : aJ} (ev : Ev Γ dc mSchr [.ref 1000, .int s2] d e (some (.int rv)) d2 e2) (hdd : dc + 1 ≤ dp) (k : Rn Γ dp mX5_isWord 42 [some (.ref 83), some (.int x1), some (.int x2), some (.int x3), some (.int x4), some (.int x5)] (.int rv :: [.int s0]) d2 e2 r dF eF) : Rn Γ dp mX5_isWord 39 [some (.ref 83), some (.int x1), some (.int x2), some (.int x3), some (.int x4), some (.int x5)] [.int s2, .ref 1000, .int s0] d e r dF eF :=
  a_Rn.callX (M := mX5_isWord) (M' := mSchr) (o := 0) (As := [.int s2]) (rest := [.int s0]) ev (show decode cX5_isWord 39 = .ok (.invokevirtual 92, 3) by decide +kernel) (show Cond.methodLink RX5 92 ySchr ∈ a_tb from a_tb2_at 239 rfl rfl) mwSchr (by decide) rfl rfl hdd (Nat.le_of_ble_eq_true rfl) ⟨Nat.le_refl _, Nat.le_refl _, Nat.le_refl _, Nat.le_refl _⟩ rfl k
theorem jX5_isWord_66 {Γ : aG × Launch} {dp : Nat} {x1 : Int32} {x2 : Int32} {x3 : Int32} {x4 : Int32} {x5 : Int32} {s1 : Int32} {d dF : aI} {e eF : aJ} {r : Option Value} {dc : Nat} {rv : Int32} {d2 : aI} {e2 : aJ} (ev : Ev Γ dc mSchr [.ref 1000, .int s1] d e (some (.int rv)) d2 e2) (hdd : dc + 1 ≤ dp) (k : Rn Γ dp mX5_isWord 69 [some (.ref 83), some (.int x1), some (.int x2), some (.int x3), some (.int x4), some (.int x5)] (.int rv :: []) d2 e2 r dF eF) : Rn Γ dp mX5_isWord 66 [some (.ref 83), some (.int x1), some (.int x2), some (.int x3), some (.int x4), some (.int x5)] [.int s1, .ref 1000] d e r dF eF :=
  a_Rn.callX (M := mX5_isWord) (M' := mSchr) (o := 0) (As := [.int s1]) (rest := []) ev (show decode cX5_isWord 66 = .ok (.invokevirtual 92, 3) by decide +kernel) (show Cond.methodLink RX5 92 ySchr ∈ a_tb from a_tb2_at 239 rfl rfl) mwSchr (by decide) rfl rfl hdd (Nat.le_of_ble_eq_true rfl) ⟨Nat.le_refl _, Nat.le_refl _, Nat.le_refl _, Nat.le_refl _⟩ rfl k
theorem jX10_askNext_11 {Γ : aG × Launch} {dp : Nat} {x1 : Int32} {x2 : Int32} {x3 : Int32} {v4 : Option Value} {v5 : Option Value} {s0 : Int32} {d dF : aI} {e eF : aJ} {r : Option Value} {dc : Nat} {rv : Int32} {d2 : aI} {e2 : aJ} (ev : Ev Γ dc mX12_bitCount [.int s0] d e (some (.int rv)) d2 e2) (hdd : dc + 1 ≤ dp) (k : Rn Γ dp mX10_askNext 14 [some (.ref 0), some (.int x1), some (.int x2), some (.int x3), v4, v5] (.int rv :: []) d2 e2 r dF eF) : Rn Γ dp mX10_askNext 11 [some (.ref 0), some (.int x1), some (.int x2), some (.int x3), v4, v5] [.int s0] d e r dF eF :=
  a_Rn.callS (M := mX10_askNext) (M' := mX12_bitCount) (As := [.int s0]) (rest := []) ev (show decode cX10_askNext 11 = .ok (.invokestatic 322, 3) by decide +kernel) (show Cond.methodLink RX10 322 yX12_bitCount ∈ a_tb from a_tb5_at 128 rfl rfl) mwX12_bitCount rfl hdd (Nat.le_of_ble_eq_true rfl) ⟨Nat.le_refl _, Nat.le_refl _, Nat.le_refl _, Nat.le_refl _⟩ rfl k
