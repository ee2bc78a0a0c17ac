/-! THE CLAIM OUT OF ONE WALK OF THE LAW'S BODY. Your part is whole_start (and what it stands on); all else here is the same for every law, but numbers. -/
def R_law : String := "NightCatsLaw"
def lw_P (b : Addr) (xs : List Int32) (args : Array Value) (s : State) : Prop := args = #[.ref b] ∧ s.IntsAt b xs ∧ xs.length ≤ 3072 ∧ (Jvm.Cond.and given_1 narrow_1).before args s = true
def lw_Q (_ : Array Value) (s : State) (o : Outcome) (t : State) : Prop := o = .returned (some (.int 1)) ∧ Framed s o t [] 600000 7302250
def lw_Z (below : List Frame) (a : Array Value) (s : State) : State → Prop := fun t => ∃ o, t.status = .running ∧ Ended t below o ∧ lw_Q a s o t
/-- the law's own end, with 1 on the stack, nothing written that was there before, its room as the claim has it -/
theorem lw_ret {p : Program} {l : Launch} {e : Env} {s : State} {m : MethodId} {below : List Frame} {meth : Method} {c : Code} {b : Nat} (hx : p.tables.exec = Jvm.exec) (hb : c.code = code) (hr : meth.sig.returnType = ret) (hlocks : meth.locks = false) {pc : Nat} {H : Heap} {ls : Array Slot} (hdg : decode code pc = .ok (.ireturn, 1)) : W p l e room_1 s m #[Value.ref b] below meth c H [] 600000 7302250 (lw_Z below #[Value.ref b] s) (F0 m pc ls [.int 1]) := by
  intro T hT X
  obtain ⟨fs, hret, hrun, hended, hW, hframe⟩ := X.leave (v := some (.int 1)) (hlocks := hlocks) (fun h => by rw [hr] at h; cases h)
  have hmeth' : T.vm.method? m = some meth := X.method'
  refine ⟨T.setFrames fs, ?_, .returned (some (.int 1)), hrun, hended, rfl, ⟨_, rfl⟩, hW, hframe⟩
  jvm_step X.here [X.here.top, hx, hb, hdg, hmeth', hr, ret, narrow_b1]
  (try refine ⟨rfl, ?_⟩); (try refine ⟨rfl, ?_⟩)
  first | (intro acts; rw [hret _ acts rfl rfl rfl]) | rw [hret _ _ rfl rfl rfl]
  exact Steps.refl _
/-- what holds at the law's entry: the machine, the code, the tables' words (any of lw_tbl by 'hts w (by decide +kernel)'), the script of L ints xs at the cell b, what the Statement gives of the start (any of its parts by flat_of_before) -/
def lw_At (p : Program) (s : State) (m : MethodId) (meth : Method) (c : Code) (b L : Nat) (xs : Nat → Int32) : Prop :=
  p.tables.exec = Jvm.exec ∧ c.code = code ∧ meth.sig.returnType = ret ∧ c.maxLocals = 4 ∧ s.vm.findClass R_law = some m.cls ∧ (∀ w ∈ lw_tbl, w.before #[Value.ref b] s = true) ∧ va_X b L xs s s.heap ∧ b < s.heap.size ∧ meth.locks = false ∧ (Jvm.Cond.and given_1 narrow_1).before #[Value.ref b] s = true
/-! ===== the law's own walk ===== -/
def lwM : aM := (x, code, 4, ret, 99, false, ([], [], []))
def LCx (G : aG) (p : Program) (s : State) (m : MethodId) (b N : Nat) (xs : Nat → Int32) (meth : Method) (c : Code) : Prop := a_cx G lwM p s m #[Value.ref b] meth c ∧ va_X b N xs s s.heap ∧ s.heap.size = G.1 ∧ b < s.heap.size ∧ G.2.2.2 2 = b
def LW (G : aG) (p : Program) (l : Launch) (e : Env) (s : State) (m : MethodId) (below : List Frame) (meth : Method) (c : Code) (b : Nat) (pc : Nat) (L : aL) (S : List Value) (h : aH) : Prop :=
  ∀ (H : Heap) (locs : List Loc) (ls : Array Slot), a_Rp G h H → a_LH G ls 4 L → va_S (fun q => G.1 ≤ q) s.heap H locs → W p l e room_1 s m #[Value.ref b] below meth c H locs h.1.length (a_sz h.1) (lw_Z below #[Value.ref b] s) (F0 m pc ls (S.map (a_v G)))
def l_x1 (N : Nat) (xs : Nat → Int32) (i : Instr) (L : aL) (S : List Value) : Option (List Prop × List Value) := match i with
  | .aload_n k => (match a_ld L k with | some (.ref o) => some ([], .ref o :: S) | _ => none)
  | .iload_n k => (match a_ld L k with | some (.int v) => some ([], .int v :: S) | _ => none)
  | .iconst n => some ([], .int (a_i n) :: S)
  | .bipush n => some ([], .int (a_i n) :: S)
  | .iadd => (match S with | .int y :: .int v :: t => some ([], .int (v + y) :: t) | _ => none)
  | .isub => (match S with | .int y :: .int v :: t => some ([], .int (v - y) :: t) | _ => none)
  | .iand => (match S with | .int y :: .int v :: t => some ([], .int (v &&& y) :: t) | _ => none)
  | .arraylength => (match S with | .ref o :: t => bif Nat.beq o 1002 then some ([], .int (Int32.ofNat N) :: t) else none | _ => none)
  | .iaload => (match S with | .int j :: .ref o :: t => bif Nat.beq o 1002 then some ([vp_in j N], .int (xs j.toNatClampNeg) :: t) else none | _ => none)
  | _ => none
def l_xs (N : Nat) (xs : Nat → Int32) : List Instr → aL → List Value → Option (List Prop × List Value)
  | [], _, S => some ([], S)
  | i :: is, L, S => match l_x1 N xs i L S with
    | none => none
    | some (cs, S1) => match l_xs N xs is L S1 with
      | none => none
      | some (cs2, S2) => some (cs ++ cs2, S2)
section LAW
variable {G : aG} {p : Program} {l : Launch} {e : Env} {s : State} {m : MethodId} {below : List Frame} {meth : Method} {c : Code} {b N pc : Nat} {xs : Nat → Int32} {L : aL} {S : List Value} {h : aH}
theorem l_script (C : LCx G p s m b N xs meth c) : a_ad G 1002 = b := by
  unfold a_ad
  rw [if_neg (by decide)]
  exact C.2.2.2.2
theorem LW.one {i : Instr} {cs : List Prop} {S1 : List Value} (C : LCx G p s m b N xs meth c) (hd : decode code pc = .ok (i, a_ln i)) (hw : a_wf i = true) (hx : l_x1 N xs i L S = some (cs, S1)) (hc : a_all cs) (k : LW G p l e s m below meth c b (pc + a_ln i) L S1 h) : LW G p l e s m below meth c b pc L S h := by
  intro H locs ls hR hL hS
  have C1 := C.1
  have kk := fun S2 (e2 : S1 = S2) => (e2 ▸ k H locs ls hR hL hS : W p l e room_1 s m #[Value.ref b] below meth c H locs h.1.length (a_sz h.1) (lw_Z below #[Value.ref b] s) (F0 m (pc + a_ln i) ls (S2.map (a_v G))))
  cases i
  case aload_n j =>
    simp only [l_x1] at hx
    split at hx
    · rename_i o ho
      cases hx
      exact lv_aload_n C1.1 C1.2.1 hd rfl (hL.at ho) (kk _ rfl)
    · cases hx
  case iload_n j =>
    simp only [l_x1] at hx
    split at hx
    · rename_i o ho
      cases hx
      exact lv_iload_n C1.1 C1.2.1 hd rfl (hL.at ho) (kk _ rfl)
    · cases hx
  case iconst n =>
    cases hx
    exact lv_iconst C1.1 C1.2.1 hd (of_decide_eq_true hw) (kk _ rfl)
  case bipush n =>
    cases hx
    exact lv_bipush C1.1 C1.2.1 hd (of_decide_eq_true hw) (kk _ rfl)
  case iadd =>
    simp only [l_x1] at hx
    split at hx
    · cases hx
      exact lv_iadd C1.1 C1.2.1 hd (kk _ rfl)
    · cases hx
  case isub =>
    simp only [l_x1] at hx
    split at hx
    · cases hx
      exact lv_isub C1.1 C1.2.1 hd (kk _ rfl)
    · cases hx
  case iand =>
    simp only [l_x1] at hx
    split at hx
    · cases hx
      exact lv_iand C1.1 C1.2.1 hd (kk _ rfl)
    · cases hx
  case arraylength =>
    simp only [l_x1] at hx
    split at hx
    · rename_i o t
      obtain ⟨hb, hx⟩ := a_cond hx
      have e1 := Nat.eq_of_beq_eq_true hb
      subst e1
      cases hx
      show W p l e room_1 s m #[Value.ref b] below meth c H locs h.1.length (a_sz h.1) (lw_Z below #[Value.ref b] s) (F0 m pc ls (.ref (a_ad G 1002) :: t.map (a_v G)))
      rw [l_script C]
      exact va_slen C1.1 C1.2.1 C.2.1 C.2.2.2.1 (by rw [← C.2.2.1]; exact Nat.not_le.mpr C.2.2.2.1) hS hd (kk _ rfl)
    · cases hx
  case iaload =>
    simp only [l_x1] at hx
    split at hx
    · rename_i j o t
      obtain ⟨hb, hx⟩ := a_cond hx
      have e1 := Nat.eq_of_beq_eq_true hb
      subst e1
      cases hx
      show W p l e room_1 s m #[Value.ref b] below meth c H locs h.1.length (a_sz h.1) (lw_Z below #[Value.ref b] s) (F0 m pc ls (.int j :: .ref (a_ad G 1002) :: t.map (a_v G)))
      rw [l_script C]
      exact va_sld C1.1 C1.2.1 C.2.1 C.2.2.2.1 (by rw [← C.2.2.1]; exact Nat.not_le.mpr C.2.2.2.1) hS hc hd (kk _ rfl)
    · cases hx
  all_goals cases hx
theorem LW.blk {is : List Instr} {pc' : Nat} {cs : List Prop} {S1 : List Value} (C : LCx G p s m b N xs meth c) (hch : a_ch code pc is pc' = true) (hx : l_xs N xs is L S = some (cs, S1)) (hc : a_all cs) (k : LW G p l e s m below meth c b pc' L S1 h) : LW G p l e s m below meth c b pc L S h := by
  induction is generalizing pc S cs with
  | nil =>
    have e := Nat.eq_of_beq_eq_true hch
    subst e
    cases hx
    exact k
  | cons i is ih =>
    simp only [a_ch, Bool.and_eq_true, decide_eq_true_eq] at hch
    simp only [l_xs] at hx
    split at hx
    · cases hx
    · rename_i cs1 S2 hx1
      split at hx
      · cases hx
      · rename_i cs2 q hx2
        cases hx
        obtain ⟨hc1, hc2⟩ := a_all_app hc
        exact LW.one C hch.1.1 hch.1.2 hx1 hc1 (ih hch.2 hx2 hc2)
theorem LW.istore {i : Fin 4} {v : Int32} (C : LCx G p s m b N xs meth c) (hl : L.length = 4) (hd : decode code pc = .ok (.istore_n i, 1)) (k : LW G p l e s m below meth c b (pc + 1) (a_s1 L i (.int v)) S h) : LW G p l e s m below meth c b pc L (.int v :: S) h := fun H locs ls hR hL hS =>
  lv_istore_n C.1.1 C.1.2.1 hd rfl hL.2 i.2 rfl fun ls' hl' => k H locs ls' hR (hL.s1 (by rw [hl]; exact i.2) hl') hS
theorem LW.astore {i : Fin 4} {v : Nat} (C : LCx G p s m b N xs meth c) (hl : L.length = 4) (hd : decode code pc = .ok (.astore_n i, 1)) (k : LW G p l e s m below meth c b (pc + 1) (a_s1 L i (.ref v)) S h) : LW G p l e s m below meth c b pc L (.ref v :: S) h := fun H locs ls hR hL hS =>
  lv_astore_n C.1.1 C.1.2.1 hd rfl hL.2 i.2 rfl fun ls' hl' => k H locs ls' hR (hL.s1 (by rw [hl]; exact i.2) hl') hS
theorem LW.dup {v : Nat} (C : LCx G p s m b N xs meth c) (hd : decode code pc = .ok (.dup, 1)) (k : LW G p l e s m below meth c b (pc + 1) L (.ref v :: .ref v :: S) h) : LW G p l e s m below meth c b pc L (.ref v :: S) h := fun H locs ls hR hL hS =>
  lv_dup C.1.1 C.1.2.1 hd rfl (k H locs ls hR hL hS)
theorem LW.goto {off : Int} {tgt : Nat} (C : LCx G p s m b N xs meth c) (hd : decode code pc = .ok (.goto off, 3)) (ht : (pc : Int) + off = (tgt : Int)) (k : LW G p l e s m below meth c b tgt L S h) : LW G p l e s m below meth c b pc L S h := fun H locs ls hR hL hS =>
  lv_goto C.1.1 C.1.2.1 hd ht (k H locs ls hR hL hS)
theorem LW.ifeq {off : Int} {tgt : Nat} {v : Int32} (C : LCx G p s m b N xs meth c) (hd : decode code pc = .ok (.ifCond .eq off, 3)) (ht : (pc : Int) + off = (tgt : Int)) (kt : v = 0 → LW G p l e s m below meth c b tgt L S h) (kf : ¬v = 0 → LW G p l e s m below meth c b (pc + 3) L S h) : LW G p l e s m below meth c b pc L (.int v :: S) h := fun H locs ls hR hL hS =>
  lv_if_eq C.1.1 C.1.2.1 hd ht (fun q => kt q H locs ls hR hL hS) (fun q => kf q H locs ls hR hL hS)
theorem LW.ieq {off : Int} {tgt : Nat} {v : Int32} (C : LCx G p s m b N xs meth c) (hd : decode code pc = .ok (.if_icmp .eq off, 3)) (ht : (pc : Int) + off = (tgt : Int)) (kt : LW G p l e s m below meth c b tgt L S h) : LW G p l e s m below meth c b pc L (.int v :: .int v :: S) h := fun H locs ls hR hL hS =>
  lv_icmp_eq C.1.1 C.1.2.1 hd ht (fun q => kt H locs ls hR hL hS) (fun q => absurd rfl q)
theorem LW.igt {off : Int} {tgt : Nat} {v w : Int32} (C : LCx G p s m b N xs meth c) (hd : decode code pc = .ok (.if_icmp .gt off, 3)) (ht : (pc : Int) + off = (tgt : Int)) (kt : w < v → LW G p l e s m below meth c b tgt L S h) (kf : ¬w < v → LW G p l e s m below meth c b (pc + 3) L S h) : LW G p l e s m below meth c b pc L (.int w :: .int v :: S) h := fun H locs ls hR hL hS =>
  lv_icmp_gt C.1.1 C.1.2.1 hd ht (fun q => kt q H locs ls hR hL hS) (fun q => kf q H locs ls hR hL hS)
theorem LW.tsw {dflt lo hi : Int} {offs : Array Int} {len : Nat} {v : Int32} {tgt : Nat} (C : LCx G p s m b N xs meth c) (hd : decode code pc = .ok (.tableswitch dflt lo hi offs, len)) (hx : (v.toInt < lo ∨ hi < v.toInt) ∧ (pc : Int) + dflt = (tgt : Int) ∨ (¬ v.toInt < lo ∧ ¬ hi < v.toInt ∧ ∃ off, offs[(v.toInt - lo).toNat]? = some off ∧ (pc : Int) + off = (tgt : Int))) (k : LW G p l e s m below meth c b tgt L S h) : LW G p l e s m below meth c b pc L (.int v :: S) h := by
  intro H locs ls hR hL hS
  have hk := k H locs ls hR hL hS
  rcases hx with ⟨q1, q2⟩ | ⟨q1, q2, off, q3, q4⟩
  · exact lv_tableOut C.1.1 C.1.2.1 hd q1 q2 hk
  · exact lv_tableIn C.1.1 C.1.2.1 hd q1 q2 q3 q4 hk
/-- the end -/
theorem LW.fin (C : LCx G p s m b N xs meth c) (hr : a_sz h.1 ≤ 7302250) (hd : decode code pc = .ok (.ireturn, 1)) : LW G p l e s m below meth c b pc L [.int 1] h := by
  intro H locs ls hR hL hS
  have h1 := hR.1
  refine W.widen (k := 600000) (n := 7302250) (by omega) hr ?_
  refine va_forget (fun q hq => by rw [C.2.2.1]; exact hS.2.2 q hq) ?_
  exact lw_ret C.1.1 C.1.2.1 C.1.2.2.1 C.1.2.2.2.2.2.2.1 hd
theorem LW.after {H : Heap} {locs : List Loc} {ls : Array Slot} {S0 rest : List Value} {r1 : Option Value} {H1 : aH} {a : Array Value}
    (C : LCx G p s m b N xs meth c) (hL : a_LH G ls 4 L) (hS : va_S (fun q => G.1 ≤ q) s.heap H locs) (hle : h.1.length ≤ H1.1.length ∧ a_sz h.1 ≤ a_sz H1.1)
    (hrun : va_Run p l e room_1 s m #[Value.ref b] below meth c H locs h.1.length (a_sz h.1) (H1.1.length - h.1.length) (a_sz H1.1 - a_sz h.1) (F0 m pc ls S0) (rest.map (a_v G)) (a_Q G r1 H1 a) (fun q => G.1 ≤ q))
    (k : LW G p l e s m below meth c b (pc + 3) L (r1.toList ++ rest) H1) :
    W p l e room_1 s m #[Value.ref b] below meth c H locs h.1.length (a_sz h.1) (lw_Z below #[Value.ref b] s) (F0 m pc ls S0) := by
  intro T hT X
  obtain ⟨v, st₀, t, T', L2, e0, X', hL2, e1, e2, ⟨q1, q2, q3⟩, hgo⟩ := hrun T hT X
  cases q1
  have hS2 : va_S (fun q => G.1 ≤ q) s.heap T'.heap (locs ++ L2) := by
    refine ⟨Nat.le_trans hS.1 (by rw [e1, ← e0]; exact q3.1), fun q g1 g2 => ?_, fun q hq => ?_⟩
    · rw [e1, q3.2 q (by rw [e0]; exact Nat.lt_of_lt_of_le g1 hS.1) g2, e0]
      exact hS.2.1 q g1 g2
    · rcases List.mem_append.mp hq with g | g
      · exact hS.2.2 q g
      · exact hL2 q g
  have h5 := k T'.heap (locs ++ L2) ls (by rw [e1]; exact q2) hL hS2
  rw [show h.1.length + (H1.1.length - h.1.length) = H1.1.length by omega, show a_sz h.1 + (a_sz H1.1 - a_sz h.1) = a_sz H1.1 by omega] at X'
  obtain ⟨t2, a1, b1⟩ := h5 T' rfl X'
  refine ⟨t2, hgo t2 ?_, b1⟩
  have e9 : (r1.map (a_v G)).toList ++ rest.map (a_v G) = (r1.toList ++ rest).map (a_v G) := by
    cases r1 <;> simp
  show Steps p.tables e below (T'.setTop (F0 m (pc + 3) ls ((r1.map (a_v G)).toList ++ rest.map (a_v G)))) t2
  rw [e9]
  exact a1
theorem LW.callV {M' : aM} {idx o ci n nA d' : Nat} {As rest : List Value} {r1 : Option Value} {H1 : aH} {q : vw_C} (C : LCx G p s m b N xs meth c) (ev : a_Ev G l d' M' (.ref o :: As) h r1 H1) (hd : decode code pc = .ok (.invokevirtual idx, 3)) (hlk : Cond.methodLink x.cls idx M'.1 ∈ a_tb) (hm : a_mW M' nA ∧ Cond.instanceMethod M'.1 ∈ a_tb ∧ Cond.selects M'.1.cls M'.1 M'.1 ∈ a_tb)
    (ho : h.1[o]? = some (ci + 4, n)) (hq : acl[ci]? = some q) (hcl : q.1 = M'.1.cls) (hn : As.length = nA) (hdd : d' ≤ 1300) (hcat : a_cat rest ≤ 8) (hle : h.1.length ≤ H1.1.length ∧ a_sz h.1 ≤ a_sz H1.1 ∧ H1.1.length ≤ 600000 ∧ a_sz H1.1 ≤ 7302250)
    (hSt : S = As.reverse ++ .ref o :: rest) (k : LW G p l e s m below meth c b (pc + 3) L (r1.toList ++ rest) H1) : LW G p l e s m below meth c b pc L S h := by
  intro H locs ls hR hL hS
  have hC := C
  obtain ⟨⟨hx, hb, -, hml, hts, hown, -, -, hK, hX, hb0⟩, C2⟩ := C
  obtain ⟨⟨w1, w2, w3, w4⟩, w5, w6⟩ := hm
  refine LW.after (S0 := S.map (a_v G)) (a := (Value.ref (a_ad G o) :: As.map (a_v G)).toArray) hC hL hS ⟨hle.1, hle.2.1⟩ ?_ k
  have hg := a_goodIn w1
  have e1 : S.map (a_v G) = (As.map (a_v G)).reverse ++ .ref (a_ad G o) :: rest.map (a_v G) := by
    rw [hSt, List.map_append, List.map_reverse, List.map_cons]
    rfl
  have hrw := a_ad_in hR (a_lt ho)
  rw [e1]
  refine va_runV (C := M'.1.cls) (As := As.map (a_v G)) (n := nA) ⟨hx, hb, hml, hown, hts⟩ ev ⟨⟨rfl, rfl, by show d' + 1 + 1 ≤ 2048; omega, by show 8 + (M'.2.2.1 + 11) + 60 * (d' + 1) ≤ 84000; omega, pay_in hts hg, List.mem_cons_self, hts _ w1, hts _ w2, ⟨w3.1, w3.2.1⟩, fun sig hs => ?_, hts _ hlk⟩, hts _ w5, hts _ w6⟩ ⟨a_blind, ?_, fun U hU hW => ?_⟩ rfl (by simpa using hn) hL.2.1 rfl (by show 2 * 0 + _ ≤ 8; rw [a_cat_map]; omega) hd ⟨?_, ?_⟩
  · have h9 := w3.2.2
    rw [hs] at h9
    exact (Option.some.inj h9).symm
  · rw [hrw, ← hcl]
    exact va_recv hK hR.2.2 hq (by rw [a_ws_at (a_lt ho), a_el4 ho])
  · have := a_pre (as := .ref o :: As) hK hX hb0 hR hS hU hW
    exact this
  · show h.1.length + _ ≤ 600000
    omega
  · show a_sz h.1 + _ ≤ 7302250
    omega
theorem LW.callI {M' : aM} {idx o nA d' : Nat} {As rest : List Value} {r1 : Option Value} {H1 : aH} (C : LCx G p s m b N xs meth c) (ev : a_Ev G l d' M' (.ref o :: As) h r1 H1) (hd : decode code pc = .ok (.invokespecial idx, 3)) (hlk : Cond.methodLink x.cls idx M'.1 ∈ a_tb) (hm : a_mW M' nA ∧ Cond.instanceMethod M'.1 ∈ a_tb ∧ M'.1.name = "<init>" ∧ M'.2.2.2.1 = none)
    (hn : As.length = nA) (hdd : d' ≤ 1300) (hcat : a_cat rest ≤ 8) (hle : h.1.length ≤ H1.1.length ∧ a_sz h.1 ≤ a_sz H1.1 ∧ H1.1.length ≤ 600000 ∧ a_sz H1.1 ≤ 7302250)
    (hSt : S = As.reverse ++ .ref o :: rest) (k : LW G p l e s m below meth c b (pc + 3) L (r1.toList ++ rest) H1) : LW G p l e s m below meth c b pc L S h := by
  intro H locs ls hR hL hS
  have hC := C
  obtain ⟨⟨hx, hb, -, hml, hts, hown, -, -, hK, hX, hb0⟩, C2⟩ := C
  obtain ⟨⟨w1, w2, w3, w4⟩, w5, w6, w7⟩ := hm
  refine LW.after (S0 := S.map (a_v G)) (a := (Value.ref (a_ad G o) :: As.map (a_v G)).toArray) hC hL hS ⟨hle.1, hle.2.1⟩ ?_ k
  have hg := a_goodIn w1
  have e1 : S.map (a_v G) = (As.map (a_v G)).reverse ++ .ref (a_ad G o) :: rest.map (a_v G) := by
    rw [hSt, List.map_append, List.map_reverse, List.map_cons]
    rfl
  rw [e1]
  unfold a_Ev at ev
  rw [w7] at ev w1 hg
  refine va_runI (As := As.map (a_v G)) (n := nA) ⟨hx, hb, hml, hown, hts⟩ ev ⟨⟨rfl, rfl, by show d' + 1 + 1 ≤ 2048; omega, by show 8 + (M'.2.2.1 + 11) + 60 * (d' + 1) ≤ 84000; omega, pay_in hts hg, List.mem_cons_self, hts _ w1, hts _ w2, ⟨w3.1, w3.2.1⟩, fun sig hs => ?_, hts _ hlk⟩, w6, hts _ w5⟩ ⟨a_blind, fun U hU hW => ?_⟩ rfl (by simpa using hn) hL.2.1 rfl (by show 2 * 0 + _ ≤ 8; rw [a_cat_map]; omega) hd ⟨?_, ?_⟩
  · have h9 := w3.2.2
    rw [hs] at h9
    exact (Option.some.inj h9).symm
  · have := a_pre (as := .ref o :: As) hK hX hb0 hR hS hU hW
    exact this
  · show h.1.length + _ ≤ 600000
    omega
  · show a_sz h.1 + _ ≤ 7302250
    omega
theorem LW.new {idx ci : Nat} {q : vw_C} (C : LCx G p s m b N xs meth c) (hlink : Cond.classLink x.cls idx q.1 ∈ a_tb) (hq : acl[ci]? = some q) (hlim : h.1.length + 1 ≤ 1000 ∧ a_sz h.1 + q.2.2 ≤ 7302250) (hd : decode code pc = .ok (.new idx, 3)) (k : LW G p l e s m below meth c b (pc + 3) L (.ref h.1.length :: S) (a_new h (ci + 4, q.2.2))) : LW G p l e s m below meth c b pc L S h := by
  intro H locs ls hR hL hS
  have hC := C
  obtain ⟨⟨hx, hb, -, -, hts, hown, -, -, hK, hX, hb0⟩, C2⟩ := C
  have h0 : s.heap.size = G.1 + 0 := C2.2.1
  obtain ⟨c1, c2, c3, c4, c5, c6⟩ := a_cok ci q hq
  refine va_new (ci := ci) (C := q.1) (T := q.2.1) (N := q.2.2) (fs := (List.range q.2.2).map (fun j => a_fv G (a_ty ci j) (a_new h (ci + 4, q.2.2)) h.1.length j)) hx hb hts c1 (a_ty ci) c2 hown (hts _ hlink) (hts _ c5) (hts _ c6) hK hR.2.2 a_wsD hS (fun q hq => Nat.le_trans hb0 hq) hq (fun j hj => ?_) (by show h.1.length + 1 ≤ 600000; omega) (by show a_sz h.1 + _ ≤ 7302250; omega) hd fun a H1 hP1 hD1 hS1 => ?_
  · unfold vp_V
    rw [List.getD_eq_getElem?_getD, List.getElem?_map, List.getElem?_range hj]
    simp only [Option.map_some, Option.getD_some]
    have hty := c2 j hj
    cases hc : a_ty ci j <;> simp [a_fv, a_new, defaultValue, va_rf] <;> first | exact absurd hc (a_ty_ne ci j).1 | exact absurd hc (a_ty_ne ci j).2
  · refine W.sized fun hz => ?_
    have ha := a_newq (n0 := 0) hD1 hP1 h0 (Nat.zero_le _) hz
    subst ha
    rw [a_ws_push (q := (ci + 4, q.2.2)) (by rw [a_el4 a_new_at]) (fun k hk => a_new_el hk)] at hP1
    have h5 := k H1 locs ls ⟨by rw [a_new_len]; exact hlim.1, a_size (n0 := 0) hP1 hS1 h0 (Nat.zero_le _) (by rw [a_new_len]; exact hz), hP1⟩ hL hS1
    rw [a_new_len, show a_sz (a_new h (ci + 4, q.2.2)).1 = a_sz h.1 + q.2.2 from a_sz_app _ _] at h5
    have hin : a_ad G h.1.length = G.1 + h.1.length := if_pos (by omega)
    have e9 : (Value.ref h.1.length :: S).map (a_v G) = .ref (G.1 + h.1.length) :: S.map (a_v G) := by
      rw [List.map_cons]
      show Value.ref (a_ad G h.1.length) :: _ = _
      rw [hin]
    rw [e9] at h5
    exact h5
end LAW
