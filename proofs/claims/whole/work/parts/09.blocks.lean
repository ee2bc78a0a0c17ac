/-! ===== blocks, branches, ends, calls ===== -/
section AB
variable {G : aG} {l : Launch} {d : Nat} {M : aM} {n0 z0 pc : Nat} {L : aL} {S s : List Value} {h h' : aH} {r : Option Value}
theorem a_blt {a b : Nat} (h : Nat.blt a b = true) : a < b := Nat.le_of_ble_eq_true h
theorem a_cond {α : Type} {b : Bool} {x : Option α} {y : α} (h : (bif b then x else none) = some y) : b = true ∧ x = some y := by
  cases b with
  | true => exact ⟨rfl, h⟩
  | false => cases h
theorem a_mk_of {lim q : Nat × Nat} {e : aE} (h0 : a_mk lim q L s h = some e) : e = ([h.1.length + 1 ≤ 1000 ∧ h.1.length + 1 ≤ lim.1 ∧ a_sz h.1 + q.2 ≤ lim.2], L, .ref h.1.length :: s, a_new h q) := (Option.some.inj h0).symm
/-- what holds of a method's tables -/
def a_mok (M : aM) : Prop := a_fok M.1.cls M.2.2.2.2.2.2 ∧ ∀ q, acl[M.2.2.2.2.1]? = some q → q.1 = M.1.cls
theorem a_o_pv {idx ci j n o : Nat} {v : Value} {cs : List Prop} {H1 : aH} (hF : a_fok M.1.cls M.2.2.2.2.2.2) (hlk : a_lk M.2.2.2.2.2.2.1 idx = some (ci, j)) (ho : h.1[o]? = some (ci + 4, n)) (hj : j < n)
    (hfin : (!(a_fin ci j) || (M.2.2.2.2.2.1 && Nat.beq ci M.2.2.2.2.1)) = true) (hoc : ∀ q, acl[M.2.2.2.2.1]? = some q → q.1 = M.1.cls) (hpv : a_pv (a_ty ci j) h o j v = some (cs, H1)) (hc : a_all cs)
    (hd : decode M.2.1 pc = .ok (.putfield idx, 3)) (k : a_Rn G l d M n0 z0 (pc + 3) L s H1 r h') : a_Rn G l d M n0 z0 pc L (v :: .ref o :: s) h r h' := by
  have ei : ∀ (x : Int32) (k : Nat), k ≠ j → (a_uI h o j x).2.2.1 o k = h.2.2.1 o k := fun x k hk => by simp [a_uI, upd, hk]
  have eJ : ∀ (x : Int64) (k : Nat), k ≠ j → (a_uJ h o j x).2.2.2 o k = h.2.2.2 o k := fun x k hk => by simp [a_uJ, vp_updL, hk]
  have eR : ∀ (x : Option Nat) (k : Nat), k ≠ j → (a_uR h o j x).2.1 o k = h.2.1 o k := fun x k hk => by simp [a_uR, va_up, hk]
  unfold a_pv at hpv
  split at hpv
  · rename_i x ht
    cases hpv
    exact a_o_putf (H1 := (a_uI h o j x)) hF hlk ho hj hfin hoc (by rw [ht]; rfl) (by rw [ht]; rfl) rfl (by rw [ht]; simp [a_fv, a_uI, upd, a_v]) (fun k hk => a_fv_o rfl (ei x k hk) rfl) (fun k hk => a_el_eq rfl rfl (if_neg hk) rfl) hd k
  · rename_i x ht
    cases hpv
    have hn : narrow .boolean (.int x) = .int x := by
      rcases hc with rfl | rfl <;> rfl
    have hf : fits .boolean (.int x) = true := by
      rcases hc with rfl | rfl <;> rfl
    exact a_o_putf (H1 := (a_uI h o j x)) hF hlk ho hj hfin hoc (by rw [ht]; exact hn) (by rw [ht]; exact hf) rfl (by rw [ht]; simp [a_fv, a_uI, upd, a_v]) (fun k hk => a_fv_o rfl (ei x k hk) rfl) (fun k hk => a_el_eq rfl rfl (if_neg hk) rfl) hd k
  · rename_i x ht
    cases hpv
    exact a_o_putf (H1 := (a_uJ h o j x)) hF hlk ho hj hfin hoc (by rw [ht]; rfl) (by rw [ht]; rfl) rfl (by rw [ht]; simp [a_fv, a_uJ, vp_updL, a_v]) (fun k hk => a_fv_o rfl rfl (eJ x k hk)) (fun k hk => a_el_eq rfl rfl rfl (if_neg hk)) hd k
  · rename_i q x ht
    cases hpv
    exact a_o_putf (H1 := (a_uR h o j (some x))) hF hlk ho hj hfin hoc (by rw [ht]; rfl) (by rw [ht]; rfl) rfl (by rw [ht]; simp [a_fv, a_uR, va_up, a_v, va_rf]) (fun k hk => a_fv_o (eR _ k hk) rfl rfl) (fun k hk => a_el_eq rfl (if_neg hk) rfl rfl) hd k
  · rename_i q x ht
    cases hpv
    exact a_o_putf (H1 := (a_uR h o j (some x))) hF hlk ho hj hfin hoc (by rw [ht]; rfl) (by rw [ht]; rfl) rfl (by rw [ht]; simp [a_fv, a_uR, va_up, a_v, va_rf]) (fun k hk => a_fv_o (eR _ k hk) rfl rfl) (fun k hk => a_el_eq rfl (if_neg hk) rfl rfl) hd k
  · cases hpv
theorem a_Rn.one {i : Instr} {cs : List Prop} {L1 : aL} {S1 : List Value} {H1 : aH} (hM : a_mok M) (hd : decode M.2.1 pc = .ok (i, a_ln i)) (hw : a_wf i = true) (hx : a_x1 M.2.2.2.2.2.2 M.2.2.2.2.1 M.2.2.2.2.2.1 (h'.1.length, a_sz h'.1) i L S h = some (cs, L1, S1, H1)) (hc : a_all cs)
    (k : a_Rn G l d M n0 z0 (pc + a_ln i) L1 S1 H1 r h') : a_Rn G l d M n0 z0 pc L S h r h' := by
  obtain ⟨hF, hoc⟩ := hM
  cases i
  case iconst n =>
    cases hx
    exact a_o_iconst hd (of_decide_eq_true hw) k
  case bipush n =>
    cases hx
    exact a_o_bipush hd (of_decide_eq_true hw) k
  case sipush n =>
    cases hx
    exact a_o_sipush hd (of_decide_eq_true hw) k
  case lconst n =>
    cases hx
    exact a_o_lconst hd k
  case iadd =>
    simp only [a_x1, a_ii] at hx
    split at hx
    · cases hx; exact a_o_iadd hd k
    · cases hx
  case isub =>
    simp only [a_x1, a_ii] at hx
    split at hx
    · cases hx; exact a_o_isub hd k
    · cases hx
  case imul =>
    simp only [a_x1, a_ii] at hx
    split at hx
    · cases hx; exact a_o_imul hd k
    · cases hx
  case iand =>
    simp only [a_x1, a_ii] at hx
    split at hx
    · cases hx; exact a_o_iand hd k
    · cases hx
  case ior =>
    simp only [a_x1, a_ii] at hx
    split at hx
    · cases hx; exact a_o_ior hd k
    · cases hx
  case ixor =>
    simp only [a_x1, a_ii] at hx
    split at hx
    · cases hx; exact a_o_ixor hd k
    · cases hx
  case ishl =>
    simp only [a_x1, a_ii] at hx
    split at hx
    · cases hx; exact a_o_ishl hd k
    · cases hx
  case ishr =>
    simp only [a_x1, a_ii] at hx
    split at hx
    · cases hx; exact a_o_ishr hd k
    · cases hx
  case iushr =>
    simp only [a_x1, a_ii] at hx
    split at hx
    · cases hx; exact a_o_iushr hd k
    · cases hx
  case ladd =>
    simp only [a_x1, a_jj] at hx
    split at hx
    · cases hx; exact a_o_ladd hd k
    · cases hx
  case lsub =>
    simp only [a_x1, a_jj] at hx
    split at hx
    · cases hx; exact a_o_lsub hd k
    · cases hx
  case lmul =>
    simp only [a_x1, a_jj] at hx
    split at hx
    · cases hx; exact a_o_lmul hd k
    · cases hx
  case land =>
    simp only [a_x1, a_jj] at hx
    split at hx
    · cases hx; exact a_o_land hd k
    · cases hx
  case lor =>
    simp only [a_x1, a_jj] at hx
    split at hx
    · cases hx; exact a_o_lor hd k
    · cases hx
  case idiv =>
    simp only [a_x1, a_div] at hx
    split at hx
    · cases hx; exact a_o_idiv hd hc k
    · cases hx
  case irem =>
    simp only [a_x1, a_div] at hx
    split at hx
    · cases hx; exact a_o_irem hd hc k
    · cases hx
  case ldiv =>
    simp only [a_x1, a_divJ] at hx
    split at hx
    · cases hx; exact a_o_ldiv hd hc k
    · cases hx
  case lrem =>
    simp only [a_x1, a_divJ] at hx
    split at hx
    · cases hx; exact a_o_lrem hd hc k
    · cases hx
  case lshl =>
    simp only [a_x1, a_ji] at hx
    split at hx
    · cases hx; exact a_o_lshl hd k
    · cases hx
  case lshr =>
    simp only [a_x1, a_ji] at hx
    split at hx
    · cases hx; exact a_o_lshr hd k
    · cases hx
  case ineg =>
    simp only [a_x1] at hx
    split at hx
    · cases hx; exact a_o_ineg hd k
    · cases hx
  case lneg =>
    simp only [a_x1] at hx
    split at hx
    · cases hx; exact a_o_lneg hd k
    · cases hx
  case i2l =>
    simp only [a_x1] at hx
    split at hx
    · cases hx; exact a_o_i2l hd k
    · cases hx
  case l2i =>
    simp only [a_x1] at hx
    split at hx
    · cases hx; exact a_o_l2i hd k
    · cases hx
  case i2c =>
    simp only [a_x1] at hx
    split at hx
    · cases hx; exact a_o_i2c hd k
    · cases hx
  case lcmp =>
    simp only [a_x1] at hx
    split at hx
    · cases hx; exact a_o_lcmp hd k
    · cases hx
  case iload i =>
    simp only [a_x1, a_il] at hx
    split at hx
    · rename_i x hl; cases hx; exact a_o_iload hd hl k
    · cases hx
  case iload_n i =>
    simp only [a_x1, a_il] at hx
    split at hx
    · rename_i x hl; cases hx; exact a_o_iload_n hd hl k
    · cases hx
  case lload i =>
    simp only [a_x1, a_jl] at hx
    split at hx
    · rename_i x hl; cases hx; exact a_o_lload hd hl k
    · cases hx
  case lload_n i =>
    simp only [a_x1, a_jl] at hx
    split at hx
    · rename_i x hl; cases hx; exact a_o_lload_n hd hl k
    · cases hx
  case aload i =>
    simp only [a_x1, a_al] at hx
    split at hx
    · rename_i x hl; cases hx; exact a_o_aload hd hl k
    · cases hx
  case aload_n i =>
    simp only [a_x1, a_al] at hx
    split at hx
    · rename_i x hl; cases hx; exact a_o_aload_n hd hl k
    · cases hx
  case istore i =>
    simp only [a_x1, a_is] at hx
    split at hx
    · obtain ⟨hb, hx⟩ := a_cond hx
      cases hx; exact a_o_istore hd (a_blt hb) k
    · cases hx
  case istore_n i =>
    simp only [a_x1, a_is] at hx
    split at hx
    · obtain ⟨hb, hx⟩ := a_cond hx
      cases hx; exact a_o_istore_n hd (a_blt hb) k
    · cases hx
  case lstore i =>
    simp only [a_x1, a_js] at hx
    split at hx
    · obtain ⟨hb, hx⟩ := a_cond hx
      cases hx; exact a_o_lstore hd (a_blt hb) k
    · cases hx
  case lstore_n i =>
    simp only [a_x1, a_js] at hx
    split at hx
    · obtain ⟨hb, hx⟩ := a_cond hx
      cases hx; exact a_o_lstore_n hd (a_blt hb) k
    · cases hx
  case astore i =>
    simp only [a_x1, a_as] at hx
    split at hx
    · obtain ⟨hb, hx⟩ := a_cond hx
      cases hx; exact a_o_astore hd (a_blt hb) k
    · cases hx
  case astore_n i =>
    simp only [a_x1, a_as] at hx
    split at hx
    · obtain ⟨hb, hx⟩ := a_cond hx
      cases hx; exact a_o_astore_n hd (a_blt hb) k
    · cases hx
  case iinc i n =>
    simp only [a_x1] at hx
    split at hx
    · rename_i x hl
      obtain ⟨hb, hx⟩ := a_cond hx
      cases hx; exact a_o_iinc hd hl (a_blt hb) (of_decide_eq_true hw) k
    · cases hx
  case ldc j =>
    simp only [a_x1] at hx
    split at hx
    · rename_i v hl; cases hx; exact a_o_ldc hF hl hd k
    · rename_i v hl; cases hx; exact a_o_ldcS hF hl hd k
    · cases hx
  case ldc_w j =>
    simp only [a_x1] at hx
    split at hx
    · rename_i v hl; cases hx; exact a_o_ldcw hF hl hd k
    · cases hx
  case ldc2_w j =>
    simp only [a_x1] at hx
    split at hx
    · rename_i v hl; cases hx; exact a_o_ldc2 hF hl hd k
    · cases hx
  case dup =>
    simp only [a_x1] at hx
    split at hx
    · obtain ⟨hb, hx⟩ := a_cond hx
      cases hx; exact a_o_dup hd (Nat.eq_of_beq_eq_true hb) k
    · cases hx
  case pop =>
    simp only [a_x1] at hx
    split at hx
    · obtain ⟨hb, hx⟩ := a_cond hx
      cases hx; exact a_o_pop hd (Nat.eq_of_beq_eq_true hb) k
    · cases hx
  case dup2 =>
    simp only [a_x1] at hx
    split at hx
    · cases hx; exact a_o_dup2J hd k
    · obtain ⟨hb, hx⟩ := a_cond hx
      rw [Bool.and_eq_true] at hb
      cases hx; exact a_o_dup2 hd (Nat.eq_of_beq_eq_true hb.1) (Nat.eq_of_beq_eq_true hb.2) k
    · cases hx
  case getfield j =>
    simp only [a_x1, a_gf] at hx
    split at hx
    · rename_i ci f o s hl
      split at hx
      · rename_i t n ho
        obtain ⟨hb, hx2⟩ := a_cond hx
        rw [Bool.and_eq_true] at hb
        have et := Nat.eq_of_beq_eq_true hb.1
        subst et
        cases hx2; exact a_o_getf hF hl ho (a_blt hb.2) hd k
      · cases hx
    · cases hx
  case putfield j =>
    simp only [a_x1, a_pf] at hx
    split at hx
    · rename_i ci f v o s hl
      split at hx
      · rename_i t n ho
        obtain ⟨hb, hx2⟩ := a_cond hx
        rw [Bool.and_eq_true, Bool.and_eq_true] at hb
        have et := Nat.eq_of_beq_eq_true hb.1.1
        subst et
        split at hx2
        · rename_i cs1 h1 hpv
          cases hx2
          exact a_o_pv hF hl ho (a_blt hb.1.2) hb.2 hoc hpv hc hd k
        · cases hx2
      · cases hx
    · cases hx
  case iaload =>
    simp only [a_x1, a_ia] at hx
    split at hx
    · split at hx
      · rename_i ho; cases hx; exact a_o_iald ho hc hd k
      · cases hx
    · cases hx
  case baload =>
    simp only [a_x1, a_za] at hx
    split at hx
    · split at hx
      · rename_i ho; cases hx; exact a_o_zald ho hc hd k
      · cases hx
    · cases hx
  case laload =>
    simp only [a_x1, a_ja] at hx
    split at hx
    · split at hx
      · rename_i ho; cases hx; exact a_o_lald ho hc hd k
      · cases hx
    · cases hx
  case aaload =>
    simp only [a_x1, a_qa] at hx
    split at hx
    · split at hx
      · rename_i ho; cases hx; exact a_o_aald ho hc hd k
      · cases hx
    · cases hx
  case iastore =>
    simp only [a_x1, a_iw] at hx
    split at hx
    · split at hx
      · rename_i ho; cases hx; exact a_o_iast ho hc hd k
      · cases hx
    · cases hx
  case bastore =>
    simp only [a_x1, a_zw] at hx
    split at hx
    · split at hx
      · rename_i ho; cases hx; exact a_o_zast ho hc hd k
      · cases hx
    · cases hx
  case lastore =>
    simp only [a_x1, a_jw] at hx
    split at hx
    · split at hx
      · rename_i ho; cases hx; exact a_o_last ho hc hd k
      · cases hx
    · cases hx
  case aastore =>
    simp only [a_x1, a_qw] at hx
    split at hx
    · split at hx
      · rename_i ho hxo; cases hx; exact a_o_aast ho hxo hc hd k
      · cases hx
    · cases hx
  case arraylength =>
    simp only [a_x1, a_len] at hx
    split at hx
    · split at hx
      · rename_i ho; cases hx; exact a_o_alen ho (by decide) hd k
      · rename_i ho; cases hx; exact a_o_alen ho (by decide) hd k
      · rename_i ho; cases hx; exact a_o_alen ho (by decide) hd k
      · rename_i ho; cases hx; exact a_o_alen ho (by decide) hd k
      · cases hx
    · cases hx
  case newarray t =>
    simp only [a_x1, a_na] at hx
    split at hx
    · cases t
      case int =>
        simp only [a_mk] at hx
        cases hx; exact a_o_newI hc.1 hc.2 hd k
      case long =>
        simp only [a_mk] at hx
        cases hx; exact a_o_newJ hc.1 hc.2 hd k
      case boolean =>
        simp only [a_mk] at hx
        cases hx; exact a_o_newZ hc.1 hc.2 hd k
      all_goals cases hx
    · cases hx
  case anewarray j =>
    simp only [a_x1, a_nq] at hx
    split at hx
    · split at hx
      · rename_i hl
        simp only [a_mk] at hx
        cases hx; exact a_o_newR hF hl hc.1 hc.2 hd k
      · cases hx
    · cases hx
  case new j =>
    simp only [a_x1, a_no] at hx
    split at hx
    · rename_i n hl
      obtain ⟨hb, hx⟩ := a_cond hx
      split at hx
      · rename_i q hq
        have e1 : n = 100 + (n - 100) := by have := Nat.le_of_ble_eq_true hb; omega
        simp only [a_mk] at hx
        rw [e1] at hl
        cases hx; exact a_o_newO hF hl hq hc hd k
      · cases hx
    · cases hx
  case invokestatic j =>
    simp only [a_x1] at hx
    split at hx
    · rename_i f hl
      unfold a_js_ at hx
      split at hx
      · obtain ⟨hb, hx⟩ := a_cond hx
        cases hx; exact a_o_max hF hl (Nat.le_of_ble_eq_true hb) hd k
      · obtain ⟨hb, hx⟩ := a_cond hx
        cases hx; exact a_o_min hF hl (Nat.le_of_ble_eq_true hb) hd k
      · obtain ⟨hb, hx⟩ := a_cond hx
        cases hx; exact a_o_abs hF hl (Nat.le_of_ble_eq_true hb) hd k
      · obtain ⟨hb, hx⟩ := a_cond hx
        cases hx; exact a_o_maxJ hF hl (Nat.le_of_ble_eq_true hb) hd k
      · obtain ⟨hb, hx⟩ := a_cond hx
        cases hx; exact a_o_minJ hF hl (Nat.le_of_ble_eq_true hb) hd k
      · obtain ⟨hb, hx⟩ := a_cond hx
        cases hx; exact a_o_absJ hF hl (Nat.le_of_ble_eq_true hb) hd k
      · split at hx
        · rename_i h5 h6
          obtain ⟨hb, hx⟩ := a_cond hx
          cases hx; exact a_o_copy hF hl (Nat.le_of_ble_eq_true hb) h5 h6 hc hd k
        · cases hx
      · cases hx
    · cases hx
  case invokespecial j =>
    simp only [a_x1] at hx
    split at hx
    · rename_i hl
      obtain ⟨hb, hx⟩ := a_cond hx
      cases hx; exact a_o_obj hF hl (Nat.le_of_ble_eq_true hb) hd k
    · cases hx
  all_goals cases hx
theorem a_all_app : ∀ {a b : List Prop}, a_all (a ++ b) → a_all a ∧ a_all b
  | [], b, h => ⟨trivial, h⟩
  | [c], [], h => ⟨h, trivial⟩
  | [c], e :: b, h => ⟨h.1, h.2⟩
  | c :: c2 :: a, b, h => by
    have h2 := a_all_app (a := c2 :: a) h.2
    exact ⟨⟨h.1, h2.1⟩, h2.2⟩
/-- a block: its instructions are there, they do so, what they ask holds -/
theorem a_Rn.blk {is : List Instr} {pc' : Nat} {cs : List Prop} {L1 : aL} {S1 : List Value} {H1 : aH} (hM : a_mok M) (hch : a_ch M.2.1 pc is pc' = true) (hx : a_xs M.2.2.2.2.2.2 M.2.2.2.2.1 M.2.2.2.2.2.1 (h'.1.length, a_sz h'.1) is L S h = some (cs, L1, S1, H1)) (hc : a_all cs)
    (k : a_Rn G l d M n0 z0 pc' L1 S1 H1 r h') : a_Rn G l d M n0 z0 pc L S h r h' := by
  induction is generalizing pc L S h cs with
  | nil =>
    have e := Nat.eq_of_beq_eq_true hch
    subst e
    cases hx
    exact k
  | cons i is ih =>
    simp only [a_ch, Bool.and_eq_true, decide_eq_true_eq] at hch
    simp only [a_xs] at hx
    split at hx
    · cases hx
    · rename_i cs1 L2 S2 h2 hx1
      split at hx
      · cases hx
      · rename_i cs2 q hx2
        cases hx
        obtain ⟨hc1, hc2⟩ := a_all_app hc
        exact a_Rn.one hM hch.1.1 hch.1.2 hx1 hc1 (ih hch.2 hx2 hc2)
end AB
