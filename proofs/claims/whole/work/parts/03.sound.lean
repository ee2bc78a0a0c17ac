/-! ===== what is meant by a run, over the machine itself ===== -/
/-- the tables' words that go along into every call -/
def a_tb : List Cond := lw_tbl.filter goodWord
theorem a_tb_good : ∀ w ∈ a_tb, (w.onTables && w.keeps) = true ∨ ∃ ty, w = .arrayClass ty := fun w hw => good_of_word (List.mem_filter.mp hw).2
theorem a_tb_of {w : Cond} (h : w ∈ lw_tbl) (hg : goodWord w = true) : w ∈ a_tb := List.mem_filter.mpr ⟨h, hg⟩
theorem a_tb_at {w : Cond} (i : Nat) (h : tables_1[i]? = some w) (hg : goodWord w = true) : w ∈ a_tb := a_tb_of (List.mem_append_right _ (List.mem_of_getElem? h)) hg
def a_w0 : String := "takes goes  house cat   let   out   up    down  hour  dream cold  to    turn  chill if    then  else  end   or    and   not   who   taken place came  inside"
def a_w1 : String := "<>=#+-*/();"
def a_sl : List Nat := [156, 11]
def a_sb : List (List Int32) := [[116, 97, 107, 101, 115, 32, 103, 111, 101, 115, 32, 32, 104, 111, 117, 115, 101, 32, 99, 97, 116, 32, 32, 32, 108, 101, 116, 32, 32, 32, 111, 117, 116, 32, 32, 32, 117, 112, 32, 32, 32, 32, 100, 111, 119, 110, 32, 32, 104, 111, 117, 114, 32, 32, 100, 114, 101, 97, 109, 32, 99, 111, 108, 100, 32, 32, 116, 111, 32, 32, 32, 32, 116, 117, 114, 110, 32, 32, 99, 104, 105, 108, 108, 32, 105, 102, 32, 32, 32, 32, 116, 104, 101, 110, 32, 32, 101, 108, 115, 101, 32, 32, 101, 110, 100, 32, 32, 32, 111, 114, 32, 32, 32, 32, 97, 110, 100, 32, 32, 32, 110, 111, 116, 32, 32, 32, 119, 104, 111, 32, 32, 32, 116, 97, 107, 101, 110, 32, 112, 108, 97, 99, 101, 32, 99, 97, 109, 101, 32, 32, 105, 110, 115, 105, 100, 101], [60, 62, 61, 35, 43, 45, 42, 47, 40, 41, 59]]
def a_nst : List Cond := [.methodLinkNest "NightCats$Reader" 41 ⟨"NightCats$Text", "wipe", "()V"⟩ "NightCats", .methodLinkNest "NightCats$Night" 87 ⟨"NightCats", "around", "(II)I"⟩ "NightCats", .methodLinkNest "NightCats$Pairs" 68 ⟨"NightCats", "hasBit", "(II)Z"⟩ "NightCats", .methodLinkNest "NightCats$Tracks" 38 ⟨"NightCats", "canBeOne", "(LNightCats$Notes;II)Z"⟩ "NightCats", .methodLinkNest "NightCats$Joins" 37 ⟨"NightCats", "hasBit", "(II)Z"⟩ "NightCats"]
/-- what else is as it was at the start: private members of nest mates, the array class, the two texts, two statics -/
def a_X (G : aG) (U : State) (H : Heap) : Prop :=
  (∀ w ∈ a_nst, va_Nw w U) ∧ va_AO "NightCats$Text" U ∧ vk_S 2 a_sl a_sb G.2.2.2 (fun i => G.2.2.2 (i + 10)) (fun q => G.1 ≤ q) U H ∧ vk_R "NightCats$Reader" 83 a_w0 (G.2.2.2 0) U ∧ vk_R "NightCats$Reader" 76 a_w1 (G.2.2.2 1) U ∧
  va_Z "java/lang/String" "COMPACT_STRINGS" "Z" (.int 1) (fun q => G.1 ≤ q) U H ∧ va_Zq "jdk/internal/util/Preconditions" "SIOOBE_FORMATTER" "Ljava/util/function/BiFunction;" (fun q => G.1 ≤ q) U H
theorem a_X.go {G : aG} {s U : State} {H : Heap} (h : a_X G s s.heap) (hW : s.WarmedH U.vm) (hH : ∀ q : Nat, q < s.heap.size → ¬ G.1 ≤ q → H[q]? = s.heap[q]?) : a_X G U H := by
  obtain ⟨h1, h2, h3, h4, h5, h6, h7⟩ := h
  have hv : s.vm.Alike U.vm := hW.alike
  refine ⟨fun w hw => ?_, h2.moved hv, (h3.moved hv).kept hH, h4.warm hW, h5.warm hW, (h6.moved hv).kept hH, (h7.moved hv).kept hH⟩
  have h8 := h1 w hw
  simp only [a_nst, List.mem_cons, List.not_mem_nil, or_false] at hw
  rcases hw with rfl | rfl | rfl | rfl | rfl <;> exact va_Nw.warmM hW h8
theorem a_X.same {G : aG} {u U : State} {H : Heap} (h : a_X G u H) (hv : u.vm = U.vm) : a_X G U H := by
  obtain ⟨h1, h2, h3, h4, h5, h6, h7⟩ := h
  have ha : u.vm.Alike U.vm := by rw [hv]; exact Vm.Alike.refl _
  refine ⟨fun w hw => ?_, h2.moved ha, h3.moved ha, h4.same hv.symm, h5.same hv.symm, h6.moved ha, h7.moved ha⟩
  have h8 := h1 w hw
  simp only [a_nst, List.mem_cons, List.not_mem_nil, or_false] at hw
  rcases hw with rfl | rfl | rfl | rfl | rfl <;> exact va_Nw.same rfl hv h8
theorem a_win {l : List Cond} (h : ∀ w ∈ l, w ∈ lw_tbl ∧ goodWord w = true) : ∀ w ∈ l, w ∈ a_tb := fun w hw => a_tb_of (h w hw).1 (h w hw).2
def a_fok (own : String) (F : aF) : Prop :=
  (∀ q ∈ F.1, ∃ r : vw_C, acl[q.2.1]? = some r ∧ q.2.2 < r.2.2 ∧ Cond.fieldLink own q.1 r.1 (r.2.1 q.2.2).2.1 (r.2.1 q.2.2).2.2.1 ∈ a_tb) ∧
  (∀ q ∈ F.2.1, (∃ v : Int32, q.2 = .int v ∧ Cond.constant own q.1 v ∈ a_tb) ∨ (∃ v : Int64, q.2 = .long v ∧ Cond.constantLong own q.1 v ∈ a_tb) ∨ (own = "NightCats$Reader" ∧ ((q.1 = 83 ∧ q.2 = .ref 1000) ∨ (q.1 = 76 ∧ q.2 = .ref 1001)))) ∧
  (∀ q ∈ F.2.2, (q.2 = 0 ∧ Cond.methodLink own q.1 Lib.Math.max.name ∈ a_tb) ∨ (q.2 = 1 ∧ Cond.methodLink own q.1 Lib.Math.min.name ∈ a_tb) ∨ (q.2 = 2 ∧ Cond.methodLink own q.1 Lib.Math.abs.name ∈ a_tb) ∨
    (q.2 = 3 ∧ Cond.methodLink own q.1 Lib.MathLoose.max_long.x ∈ a_tb) ∨ (q.2 = 4 ∧ Cond.methodLink own q.1 Lib.MathLoose.min_long.x ∈ a_tb) ∨ (q.2 = 5 ∧ Cond.methodLink own q.1 Lib.MathLoose.abs_long.x ∈ a_tb) ∨
    (q.2 = 6 ∧ Cond.methodLink own q.1 arraycopyName ∈ a_tb) ∨ (q.2 = 7 ∧ Cond.methodLink own q.1 Lib.objectInit ∈ a_tb) ∨ (q.2 = 99 ∧ Cond.classLink own q.1 "NightCats$Text" ∈ a_tb) ∨
    (∃ (c : Nat) (r : vw_C), q.2 = 100 + c ∧ acl[c]? = some r ∧ Cond.classLink own q.1 r.1 ∈ a_tb))
/-- what the tables say of the classes -/
theorem a_cok : ∀ (c : Nat) (r : vw_C), acl[c]? = some r → (∀ w ∈ u_ws r.1 r.2.1 r.2.2, w ∈ a_tb) ∧ (∀ k, k < r.2.2 → parseFieldDescriptor (r.2.1 k).2.2.1 = some (a_ty c k)) ∧ (∀ a, a < r.2.2 → ∀ b, b < r.2.2 → a ≠ b → (r.2.1 a).2.1 ≠ (r.2.1 b).2.1) ∧ (∀ k, k < r.2.2 → (r.2.1 k).1 = r.1) ∧ Cond.instantiable r.1 r.2.2 ∈ a_tb ∧ Cond.initialized r.1 ∈ a_tb := by
  intro c r h
  match c, h with
  | 0, h => cases h; exact ⟨a_win (by decide +kernel), tyX0_ok, nmX0, by decide +kernel, a_tb_of (by decide +kernel) rfl, a_tb_of (by decide +kernel) rfl⟩
  | 1, h => cases h; exact ⟨a_win (by decide +kernel), tyX1_ok, nmX1, by decide +kernel, a_tb_of (by decide +kernel) rfl, a_tb_of (by decide +kernel) rfl⟩
  | 2, h => cases h; exact ⟨a_win (by decide +kernel), tyX2_ok, nmX2, by decide +kernel, a_tb_of (by decide +kernel) rfl, a_tb_of (by decide +kernel) rfl⟩
  | 3, h => cases h; exact ⟨a_win (by decide +kernel), tyX3_ok, nmX3, by decide +kernel, a_tb_of (by decide +kernel) rfl, a_tb_of (by decide +kernel) rfl⟩
  | 4, h => cases h; exact ⟨a_win (by decide +kernel), tyX4_ok, nmX4, by decide +kernel, a_tb_of (by decide +kernel) rfl, a_tb_of (by decide +kernel) rfl⟩
  | 5, h => cases h; exact ⟨a_win (by decide +kernel), tyX5_ok, nmX5, by decide +kernel, a_tb_of (by decide +kernel) rfl, a_tb_of (by decide +kernel) rfl⟩
  | 6, h => cases h; exact ⟨a_win (by decide +kernel), tyX6_ok, nmX6, by decide +kernel, a_tb_of (by decide +kernel) rfl, a_tb_of (by decide +kernel) rfl⟩
  | 7, h => cases h; exact ⟨a_win (by decide +kernel), tyX7_ok, nmX7, by decide +kernel, a_tb_of (by decide +kernel) rfl, a_tb_of (by decide +kernel) rfl⟩
  | 8, h => cases h; exact ⟨a_win (by decide +kernel), tyX8_ok, nmX8, by decide +kernel, a_tb_of (by decide +kernel) rfl, a_tb_of (by decide +kernel) rfl⟩
  | 9, h => cases h; exact ⟨a_win (by decide +kernel), tyX9_ok, nmX9, by decide +kernel, a_tb_of (by decide +kernel) rfl, a_tb_of (by decide +kernel) rfl⟩
  | 10, h => cases h; exact ⟨a_win (by decide +kernel), tyX10_ok, nmX10, by decide +kernel, a_tb_of (by decide +kernel) rfl, a_tb_of (by decide +kernel) rfl⟩
  | 11, h => cases h; exact ⟨a_win (by decide +kernel), tyX11_ok, nmX11, by decide +kernel, a_tb_of (by decide +kernel) rfl, a_tb_of (by decide +kernel) rfl⟩
  | c + 12, h => simp [acl] at h
theorem a_t_max : Cond.static Lib.Math.max.name ∈ a_tb ∧ Cond.initialized "java/lang/Math" ∈ a_tb ∧ Cond.code Lib.Math.max.name Lib.Math.max.code 2 (some .int) ∈ a_tb := ⟨a_tb_of (by decide +kernel) rfl, a_tb_of (by decide +kernel) rfl, a_tb_of (by decide +kernel) rfl⟩
theorem a_t_min : Cond.static Lib.Math.min.name ∈ a_tb ∧ Cond.code Lib.Math.min.name Lib.Math.min.code 2 (some .int) ∈ a_tb := ⟨a_tb_of (by decide +kernel) rfl, a_tb_of (by decide +kernel) rfl⟩
theorem a_t_abs : Cond.static Lib.Math.abs.name ∈ a_tb ∧ Cond.code Lib.Math.abs.name Lib.Math.abs.code 1 (some .int) ∈ a_tb := ⟨a_tb_of (by decide +kernel) rfl, a_tb_of (by decide +kernel) rfl⟩
theorem a_t_maxJ : Cond.static Lib.MathLoose.max_long.x ∈ a_tb ∧ Cond.code Lib.MathLoose.max_long.x Lib.MathLoose.max_long.code 4 (some .long) ∈ a_tb := ⟨a_tb_of (by decide +kernel) rfl, a_tb_of (by decide +kernel) rfl⟩
theorem a_t_minJ : Cond.static Lib.MathLoose.min_long.x ∈ a_tb ∧ Cond.code Lib.MathLoose.min_long.x Lib.MathLoose.min_long.code 4 (some .long) ∈ a_tb := ⟨a_tb_of (by decide +kernel) rfl, a_tb_of (by decide +kernel) rfl⟩
theorem a_t_absJ : Cond.static Lib.MathLoose.abs_long.x ∈ a_tb ∧ Cond.code Lib.MathLoose.abs_long.x Lib.MathLoose.abs_long.code 2 (some .long) ∈ a_tb := ⟨a_tb_of (by decide +kernel) rfl, a_tb_of (by decide +kernel) rfl⟩
theorem a_t_copy : Cond.native arraycopyName ∈ a_tb ∧ Cond.static arraycopyName ∈ a_tb ∧ Cond.initialized "java/lang/System" ∈ a_tb := ⟨a_tb_of (by decide +kernel) rfl, a_tb_of (by decide +kernel) rfl, a_tb_of (by decide +kernel) rfl⟩
theorem a_t_obj : Cond.instanceMethod Lib.objectInit ∈ a_tb ∧ Cond.code Lib.objectInit ⟨#[0xb1]⟩ 1 none ∈ a_tb := ⟨a_tb_of (by decide +kernel) rfl, a_tb_of (by decide +kernel) rfl⟩
theorem a_t_arr : Cond.arrayClass .int ∈ a_tb ∧ Cond.arrayClass .long ∈ a_tb ∧ Cond.arrayClass .boolean ∈ a_tb := ⟨a_tb_of (by decide +kernel) rfl, a_tb_of (by decide +kernel) rfl, a_tb_of (by decide +kernel) rfl⟩
def a_lv (G : aG) : Nat → aL → List (Nat × Value)
  | _, [] => []
  | i, none :: l => a_lv G (i + 1) l
  | i, some v :: l => (i, a_v G v) :: a_lv G (i + 1) l
def a_LH (G : aG) (ls : Array Slot) (n : Nat) (L : aL) : Prop := L.length = n ∧ lv_has ls n (a_lv G 0 L)
def a_Rp (G : aG) (h : aH) (H : Heap) : Prop := h.1.length ≤ 1000 ∧ H.size = G.1 + h.1.length ∧ va_P G.2.1 acl (a_ws G h) H
def a_Q (G : aG) (r : Option Value) (h' : aH) : Array Value → State → Outcome → State → Prop := fun _ st oc t => oc = .returned (r.map (a_v G)) ∧ a_Rp G h' t.heap ∧ va_F (fun q => G.1 ≤ q) st t
def a_rm (d mc ms : Nat) : Room := { frames := d + 1, cells := mc, slots := ms, locals := 60 * (d + 1) }
def a_Ev (G : aG) (l : Launch) (d : Nat) (M : aM) (as : List Value) (h : aH) (r : Option Value) (h' : aH) : Prop :=
  Met l M.1 (Cond.code M.1 M.2.1 M.2.2.1 M.2.2.2.1 :: a_tb) (a_rm d (h'.1.length - h.1.length) (a_sz h'.1 - a_sz h.1)) (va_Pc (as.map (a_v G)) (fun U => a_Rp G h U.heap ∧ va_K G.2.1 acl (a_tys G) U ∧ a_X G U U.heap ∧ G.1 ≤ U.heap.size)) (a_Q G r h') (h'.1.length - h.1.length) (a_sz h'.1 - a_sz h.1) (fun q => G.1 ≤ q)
def a_cx (G : aG) (M : aM) (p : Program) (s : State) (m : MethodId) (args : Array Value) (meth : Method) (c : Code) : Prop :=
  p.tables.exec = Jvm.exec ∧ c.code = M.2.1 ∧ meth.sig.returnType = M.2.2.2.1 ∧ c.maxLocals = M.2.2.1 ∧ (∀ w ∈ a_tb, w.before args s = true) ∧ s.vm.findClass M.1.cls = some m.cls ∧ meth.locks = false ∧ (M.2.2.2.2.2.1 = true → meth.name = "<init>") ∧ va_K G.2.1 acl (a_tys G) s ∧ a_X G s s.heap ∧ G.1 ≤ s.heap.size
def a_Rn (G : aG) (l : Launch) (d : Nat) (M : aM) (n0 z0 : Nat) (pc : Nat) (L : aL) (S : List Value) (h : aH) (r : Option Value) (h' : aH) : Prop :=
  ∀ (p : Program) (e : Env) (s : State) (m : MethodId) (args : Array Value) (below : List Frame) (meth : Method) (c : Code) (H : Heap) (locs : List Loc) (ls : Array Slot),
    a_cx G M p s m args meth c → a_Rp G h H → a_LH G ls M.2.2.1 L → va_S (fun q => G.1 ≤ q) s.heap H locs → s.heap.size = G.1 + n0 → n0 ≤ h.1.length → z0 ≤ a_sz h.1 → h.1.length ≤ h'.1.length → a_sz h.1 ≤ a_sz h'.1 →
    W p l e (a_rm d (h'.1.length - n0) (a_sz h'.1 - z0)) s m args below meth c H locs (h.1.length - n0) (a_sz h.1 - z0) (MQ below (a_Q G r h') args s (h'.1.length - n0) (a_sz h'.1 - z0) (fun q => G.1 ≤ q)) (F0 m pc ls (S.map (a_v G)))
-- words
theorem a_lk_mem {α : Type} : ∀ {l : List (Nat × α)} {k : Nat} {x : α}, a_lk l k = some x → (k, x) ∈ l
  | [], k, x, h => by simp [a_lk] at h
  | q :: l, k, x, h => by
    unfold a_lk at h
    by_cases hq : Nat.beq q.1 k = true
    · rw [hq] at h
      simp only [cond_true, Option.some.injEq] at h
      have e := Nat.eq_of_beq_eq_true hq
      subst e; subst h
      exact List.mem_cons_self
    · rw [Bool.not_eq_true] at hq
      rw [hq] at h
      exact List.mem_cons_of_mem _ (a_lk_mem h)
-- values
theorem a_v_cat (G : aG) (v : Value) : (a_v G v).category = v.category := by cases v <;> rfl
theorem a_v_rf (G : aG) (r : Option Nat) : a_v G (a_rf r) = va_rf (r.map (a_ad G)) := by cases r <;> rfl
theorem a_v_rd (G : aG) (t : FieldType) (h : aH) (k j : Nat) : a_v G (a_rd t h k j) = a_fv G t h k j := by
  cases t <;> first | rfl | exact a_v_rf G _
theorem a_cat_map (G : aG) (s : List Value) : ((s.map (a_v G)).map fun v => v.category).sum = a_cat s := by
  simp only [a_cat, List.map_map]
  congr 1
  apply List.map_congr_left
  intro v _
  exact a_v_cat G v
-- locals
theorem a_mem_lv {G : aG} : ∀ {L : aL} {i : Nat} {q : Nat × Value}, q ∈ a_lv G i L ↔ ∃ k v, a_ld L k = some v ∧ q = (i + k, a_v G v)
  | [], i, q => by simp [a_lv, a_ld]
  | none :: l, i, q => by
    rw [a_lv, a_mem_lv]
    constructor
    · rintro ⟨k, v, h1, rfl⟩
      exact ⟨k + 1, v, h1, by rw [show i + 1 + k = i + (k + 1) by omega]⟩
    · rintro ⟨k, v, h1, rfl⟩
      cases k with
      | zero => simp [a_ld] at h1
      | succ k => exact ⟨k, v, h1, by rw [show i + 1 + k = i + (k + 1) by omega]⟩
  | some w :: l, i, q => by
    rw [a_lv, List.mem_cons, a_mem_lv]
    constructor
    · rintro (rfl | ⟨k, v, h1, rfl⟩)
      · exact ⟨0, w, rfl, rfl⟩
      · exact ⟨k + 1, v, h1, by rw [show i + 1 + k = i + (k + 1) by omega]⟩
    · rintro ⟨k, v, h1, rfl⟩
      cases k with
      | zero =>
        simp only [a_ld, Option.some.injEq] at h1
        subst h1
        exact Or.inl rfl
      | succ k => exact Or.inr ⟨k, v, h1, by rw [show i + 1 + k = i + (k + 1) by omega]⟩
theorem a_LH.at {G : aG} {ls : Array Slot} {n : Nat} {L : aL} (h : a_LH G ls n L) {k : Nat} {v : Value} (hk : a_ld L k = some v) : ls[k]? = some (.val (a_v G v)) :=
  h.2.2.2 (k, a_v G v) (a_mem_lv.mpr ⟨k, v, hk, by rw [Nat.zero_add]⟩)
theorem lv_mem {ls : Array Slot} {n : Nat} {l l' : List (Nat × Value)} (h : lv_has ls n l) (hl : ∀ q ∈ l', q ∈ l) : lv_has ls n l' := ⟨h.1, h.2.1, fun q hq => h.2.2 q (hl q hq)⟩
theorem a_kl_of {a : Option Value} {w : Value} (h : a_kl a = some w) : a = some w ∧ ¬ w.category = 2 := by
  cases a with
  | none => simp [a_kl] at h
  | some v => cases v <;> simp only [a_kl, Option.some.injEq] at h <;> first | (subst h; exact ⟨rfl, by simp [Value.category]⟩) | cases h
