/-! ===== the machine of whole numbers over one world: what each instruction does to locals, stack and cells ===== -/
def a_ty (c : Nat) : Nat → FieldType := match c with
  | 0 => tyX0 | 1 => tyX1 | 2 => tyX2 | 3 => tyX3 | 4 => tyX4 | 5 => tyX5 | 6 => tyX6 | 7 => tyX7 | 8 => tyX8 | 9 => tyX9 | 10 => tyX10 | _ => tyX11
abbrev acl : List vw_C := [(RX0, TX0, 3), (RX1, TX1, 2), (RX2, TX2, 13), (RX3, TX3, 5), (RX4, TX4, 7), (RX5, TX5, 12), (RX6, TX6, 3), (RX7, TX7, 10), (RX8, TX8, 4), (RX9, TX9, 8), (RX10, TX10, 11), (RX11, TX11, 33)]
abbrev aK : Type := List (Nat × Nat)
abbrev aH : Type := aK × (Nat → Nat → Option Nat) × (Nat → Nat → Int32) × (Nat → Nat → Int64)
abbrev aL : Type := List (Option Value)
abbrev aF : Type := List (Nat × Nat × Nat) × List (Nat × Value) × List (Nat × Nat)
/-- a method: its name, bytes, locals, what it returns, its class's number, whether it is a constructor, its class's pool entries -/
abbrev aM : Type := MethodName × ByteArray × Nat × Option FieldType × Nat × Bool × aF
/-- where the world begins, its classes, the classes of its arrays, cells outside -/
abbrev aG : Type := Nat × va_G × (ClassId × ClassId × ClassId × ClassId) × (Nat → Nat)
abbrev aE : Type := List Prop × aL × List Value × aH
def a_ad (G : aG) (k : Nat) : Nat := if k < 1000 then G.1 + k else G.2.2.2 (k - 1000)
def a_v (G : aG) (v : Value) : Value := match v with
  | .ref k => .ref (a_ad G k)
  | w => w
def a_rf (r : Option Nat) : Value := match r with
  | some k => .ref k
  | none => .null
def a_fv (G : aG) (t : FieldType) (h : aH) (k j : Nat) : Value := match t with
  | .long => .long (h.2.2.2 k j)
  | .object _ => va_rf ((h.2.1 k j).map (a_ad G))
  | .array _ => va_rf ((h.2.1 k j).map (a_ad G))
  | _ => .int (h.2.2.1 k j)
/-- the same as the class reads it -/
def a_rd (t : FieldType) (h : aH) (k j : Nat) : Value := match t with
  | .long => .long (h.2.2.2 k j)
  | .object _ => a_rf (h.2.1 k j)
  | .array _ => a_rf (h.2.1 k j)
  | _ => .int (h.2.2.1 k j)
def a_el (G : aG) (h : aH) (k : Nat) : va_E := match h.1.getD k (0, 0) with
  | (0, n) => .inl (G.2.2.1.1, n, .inl (h.2.2.1 k))
  | (1, n) => .inl (G.2.2.1.2.1, n, .inr (.inl (h.2.2.2 k)))
  | (2, n) => .inl (G.2.2.1.2.2.1, n, .inl (h.2.2.1 k))
  | (3, n) => .inl (G.2.2.1.2.2.2, n, .inr (.inr (.inr (.inr fun j => (h.2.1 k j).map (a_ad G)))))
  | (c + 4, n) => .inr (c, (List.range n).map (fun j => a_fv G (a_ty c j) h k j))
def a_ws (G : aG) (h : aH) : va_W := (List.range h.1.length).map fun k => (G.1 + k, a_el G h k)
def a_tys (G : aG) : List (ClassId × FieldType) := [(G.2.2.1.1, .int), (G.2.2.1.2.1, .long), (G.2.2.1.2.2.1, .boolean), (G.2.2.1.2.2.2, .object "NightCats$Text")]
def a_sz : aK → Nat
  | [] => 0
  | q :: l => q.2 + a_sz l
-- cells changed
def a_uI (h : aH) (o f : Nat) (x : Int32) : aH := (h.1, h.2.1, (fun k => if k = o then upd (h.2.2.1 o) f x else h.2.2.1 k), h.2.2.2)
def a_uJ (h : aH) (o f : Nat) (x : Int64) : aH := (h.1, h.2.1, h.2.2.1, (fun k => if k = o then vp_updL (h.2.2.2 o) f x else h.2.2.2 k))
def a_uR (h : aH) (o f : Nat) (x : Option Nat) : aH := (h.1, (fun k => if k = o then va_up (h.2.1 o) f x else h.2.1 k), h.2.2.1, h.2.2.2)
def a_uA (h : aH) (o : Nat) (f : Nat → Int32) : aH := (h.1, h.2.1, (fun k => if k = o then f else h.2.2.1 k), h.2.2.2)
def a_new (h : aH) (q : Nat × Nat) : aH := (h.1 ++ [q], (fun k => if k = h.1.length then (fun _ => none) else h.2.1 k), (fun k => if k = h.1.length then (fun _ => 0) else h.2.2.1 k), (fun k => if k = h.1.length then (fun _ => 0) else h.2.2.2 k))
-- locals
def a_ld : aL → Nat → Option Value
  | [], _ => none
  | a :: _, 0 => a
  | _ :: l, i + 1 => a_ld l i
def a_kl (a : Option Value) : Option Value := match a with
  | some (.long _) => none
  | some (.double _) => none
  | b => b
def a_s1 : aL → Nat → Value → aL
  | [], _, _ => []
  | _ :: l, 0, v => some v :: l
  | [a], _ + 1, _ => [a]
  | a :: _ :: l, 1, v => a_kl a :: some v :: l
  | a :: b :: l, i + 2, v => a :: a_s1 (b :: l) (i + 1) v
def a_s2 : aL → Nat → Value → aL
  | [], _, _ => []
  | [a], _, _ => [a]
  | _ :: _ :: l, 0, v => some v :: none :: l
  | [a, b], _ + 1, _ => [a, b]
  | a :: _ :: _ :: l, 1, v => a_kl a :: some v :: none :: l
  | a :: b :: c :: l, i + 2, v => a :: a_s2 (b :: c :: l) (i + 1) v
def a_lk {α : Type} : List (Nat × α) → Nat → Option α
  | [], _ => none
  | q :: l, k => bif Nat.beq q.1 k then some q.2 else a_lk l k
def a_all : List Prop → Prop
  | [] => True
  | [c] => c
  | c :: cs => c ∧ a_all cs
def a_max (x y : Int32) : Int32 := if x < y then y else x
def a_min (x y : Int32) : Int32 := if y < x then y else x
def a_abs (x : Int32) : Int32 := if 0 ≤ x then x else 0 - x
def a_maxJ (x y : Int64) : Int64 := if y < x then x else y
def a_irm (x y : Int32) : Int32 := x - x / y * y
def a_jrm (x y : Int64) : Int64 := x - x / y * y
def a_shl (x y : Int32) : Int32 := x <<< (y &&& 31)
def a_shr (x y : Int32) : Int32 := x >>> (y &&& 31)
def a_ushr (x y : Int32) : Int32 := (x.toUInt32 >>> (y.toUInt32 &&& Int32.toUInt32 31)).toInt32
def a_jshl (x : Int64) (y : Int32) : Int64 := x <<< (y.toInt64 &&& 63)
def a_jshr (x : Int64) (y : Int32) : Int64 := x >>> (y.toInt64 &&& 63)
def a_i2c (x : Int32) : Int32 := (x.toUInt32 % 65536).toInt32
/-- a whole number as an int -/
def a_i (n : Int) : Int32 := match n with
  | .ofNat k => nI k
  | .negSucc k => -(nI (k + 1))
def a_cat (s : List Value) : Nat := (s.map fun v => v.category).sum
def a_minJ (x y : Int64) : Int64 := if y < x then y else x
def a_absJ (x : Int64) : Int64 := if 0 < x then x else -x
-- one instruction
def a_ii (f : Int32 → Int32 → Int32) (L : aL) (h : aH) (S : List Value) : Option aE := match S with
  | .int y :: .int x :: s => some ([], L, .int (f x y) :: s, h)
  | _ => none
def a_jj (f : Int64 → Int64 → Int64) (L : aL) (h : aH) (S : List Value) : Option aE := match S with
  | .long y :: .long x :: s => some ([], L, .long (f x y) :: s, h)
  | _ => none
def a_ji (f : Int64 → Int32 → Int64) (L : aL) (h : aH) (S : List Value) : Option aE := match S with
  | .int y :: .long x :: s => some ([], L, .long (f x y) :: s, h)
  | _ => none
def a_div (f : Int32 → Int32 → Int32) (L : aL) (h : aH) (S : List Value) : Option aE := match S with
  | .int y :: .int x :: s => some ([¬ y = 0], L, .int (f x y) :: s, h)
  | _ => none
def a_divJ (f : Int64 → Int64 → Int64) (L : aL) (h : aH) (S : List Value) : Option aE := match S with
  | .long y :: .long x :: s => some ([¬ y = 0], L, .long (f x y) :: s, h)
  | _ => none
def a_il (k : Nat) (L : aL) (S : List Value) (h : aH) : Option aE := match a_ld L k with
  | some (.int x) => some ([], L, .int x :: S, h)
  | _ => none
def a_jl (k : Nat) (L : aL) (S : List Value) (h : aH) : Option aE := match a_ld L k with
  | some (.long x) => some ([], L, .long x :: S, h)
  | _ => none
def a_al (k : Nat) (L : aL) (S : List Value) (h : aH) : Option aE := match a_ld L k with
  | some (.ref x) => some ([], L, .ref x :: S, h)
  | _ => none
def a_is (k : Nat) (L : aL) (S : List Value) (h : aH) : Option aE := match S with
  | .int x :: s => bif Nat.blt k L.length then some ([], a_s1 L k (.int x), s, h) else none
  | _ => none
def a_as (k : Nat) (L : aL) (S : List Value) (h : aH) : Option aE := match S with
  | .ref x :: s => bif Nat.blt k L.length then some ([], a_s1 L k (.ref x), s, h) else none
  | _ => none
def a_js (k : Nat) (L : aL) (S : List Value) (h : aH) : Option aE := match S with
  | .long x :: s => bif Nat.blt (k + 1) L.length then some ([], a_s2 L k (.long x), s, h) else none
  | _ => none
def a_gf (F : aF) (idx : Nat) (L : aL) (S : List Value) (h : aH) : Option aE := match a_lk F.1 idx, S with
  | some (c, j), .ref o :: s => match h.1[o]? with
    | some (t, n) => bif Nat.beq t (c + 4) && Nat.blt j n then some ([], L, a_rd (a_ty c j) h o j :: s, h) else none
    | none => none
  | _, _ => none
def a_fin (c j : Nat) : Bool := match acl[c]? with
  | some r => (r.2.1 j).2.2.2
  | none => true
def a_pv (t : FieldType) (h : aH) (o j : Nat) (v : Value) : Option (List Prop × aH) := match t, v with
  | .int, .int x => some ([], a_uI h o j x)
  | .boolean, .int x => some ([x = 0 ∨ x = 1], a_uI h o j x)
  | .long, .long x => some ([], a_uJ h o j x)
  | .object _, .ref k => some ([], a_uR h o j (some k))
  | .array _, .ref k => some ([], a_uR h o j (some k))
  | _, _ => none
def a_pf (F : aF) (oc : Nat) (ini : Bool) (idx : Nat) (L : aL) (S : List Value) (h : aH) : Option aE := match a_lk F.1 idx, S with
  | some (c, j), v :: .ref o :: s => match h.1[o]? with
    | some (t, n) => bif Nat.beq t (c + 4) && Nat.blt j n && (!(a_fin c j) || (ini && Nat.beq c oc)) then (match a_pv (a_ty c j) h o j v with
      | some (cs, h1) => some (cs, L, s, h1)
      | none => none) else none
    | none => none
  | _, _ => none
def a_ia (L : aL) (S : List Value) (h : aH) : Option aE := match S with
  | .int i :: .ref o :: s => match h.1[o]? with
    | some (0, n) => some ([vp_in i n], L, .int (h.2.2.1 o i.toNatClampNeg) :: s, h)
    | _ => none
  | _ => none
def a_za (L : aL) (S : List Value) (h : aH) : Option aE := match S with
  | .int i :: .ref o :: s => match h.1[o]? with
    | some (2, n) => some ([vp_in i n], L, .int (h.2.2.1 o i.toNatClampNeg) :: s, h)
    | _ => none
  | _ => none
def a_ja (L : aL) (S : List Value) (h : aH) : Option aE := match S with
  | .int i :: .ref o :: s => match h.1[o]? with
    | some (1, n) => some ([vp_in i n], L, .long (h.2.2.2 o i.toNatClampNeg) :: s, h)
    | _ => none
  | _ => none
def a_qa (L : aL) (S : List Value) (h : aH) : Option aE := match S with
  | .int i :: .ref o :: s => match h.1[o]? with
    | some (3, n) => some ([vp_in i n], L, a_rf (h.2.1 o i.toNatClampNeg) :: s, h)
    | _ => none
  | _ => none
def a_iw (L : aL) (S : List Value) (h : aH) : Option aE := match S with
  | .int x :: .int i :: .ref o :: s => match h.1[o]? with
    | some (0, n) => some ([vp_in i n], L, s, a_uI h o i.toNatClampNeg x)
    | _ => none
  | _ => none
def a_zw (L : aL) (S : List Value) (h : aH) : Option aE := match S with
  | .int x :: .int i :: .ref o :: s => match h.1[o]? with
    | some (2, n) => some ([vp_in i n], L, s, a_uI h o i.toNatClampNeg (vp_nar .boolean x))
    | _ => none
  | _ => none
def a_jw (L : aL) (S : List Value) (h : aH) : Option aE := match S with
  | .long x :: .int i :: .ref o :: s => match h.1[o]? with
    | some (1, n) => some ([vp_in i n], L, s, a_uJ h o i.toNatClampNeg x)
    | _ => none
  | _ => none
def a_qw (L : aL) (S : List Value) (h : aH) : Option aE := match S with
  | .ref x :: .int i :: .ref o :: s => match h.1[o]?, h.1[x]? with
    | some (3, n), some (11, _) => some ([vp_in i n], L, s, a_uR h o i.toNatClampNeg (some x))
    | _, _ => none
  | _ => none
def a_len (L : aL) (S : List Value) (h : aH) : Option aE := match S with
  | .ref o :: s => match h.1[o]? with
    | some (0, n) => some ([], L, .int (Int32.ofNat n) :: s, h)
    | some (1, n) => some ([], L, .int (Int32.ofNat n) :: s, h)
    | some (2, n) => some ([], L, .int (Int32.ofNat n) :: s, h)
    | some (3, n) => some ([], L, .int (Int32.ofNat n) :: s, h)
    | _ => none
  | _ => none
/-- a new cell: at most 'lim' of them, and of slots -/
def a_mk (lim : Nat × Nat) (q : Nat × Nat) (L : aL) (s : List Value) (h : aH) : Option aE :=
  some ([h.1.length + 1 ≤ 1000 ∧ h.1.length + 1 ≤ lim.1 ∧ a_sz h.1 + q.2 ≤ lim.2], L, .ref h.1.length :: s, a_new h q)
def a_na (lim : Nat × Nat) (t : ArrayType) (L : aL) (S : List Value) (h : aH) : Option aE := match S with
  | .int n :: s => (match (match t with
      | .int => some 0
      | .long => some 1
      | .boolean => some 2
      | _ => none : Option Nat) with
    | some k => (match a_mk lim (k, n.toNatClampNeg) L s h with
      | some (cs, r) => some ((¬ n < 0 ∧ n.toNatClampNeg ≤ 10000) :: cs, r)
      | none => none)
    | none => none)
  | _ => none
def a_nq (lim : Nat × Nat) (F : aF) (idx : Nat) (L : aL) (S : List Value) (h : aH) : Option aE := match S with
  | .int n :: s => (match a_lk F.2.2 idx with
    | some 99 => (match a_mk lim (3, n.toNatClampNeg) L s h with
      | some (cs, r) => some ((¬ n < 0 ∧ n.toNatClampNeg ≤ 10000) :: cs, r)
      | none => none)
    | _ => none)
  | _ => none
def a_no (lim : Nat × Nat) (F : aF) (idx : Nat) (L : aL) (S : List Value) (h : aH) : Option aE := match a_lk F.2.2 idx with
  | some k => bif Nat.ble 100 k then (match acl[k - 100]? with
    | some r => a_mk lim (k - 100 + 4, r.2.2) L S h
    | none => none) else none
  | none => none
/-- the JDK's own: 0 max, 1 min, 2 abs of ints, 3 max, 4 min, 5 abs of longs, 6 arraycopy of ints -/
def a_js_ (f : Nat) (L : aL) (S : List Value) (h : aH) : Option aE := match f, S with
  | 0, .int y :: .int x :: s => bif Nat.ble (a_cat s) 8 then some ([], L, .int (a_max x y) :: s, h) else none
  | 1, .int y :: .int x :: s => bif Nat.ble (a_cat s) 8 then some ([], L, .int (a_min x y) :: s, h) else none
  | 2, .int x :: s => bif Nat.ble (a_cat s) 8 then some ([], L, .int (a_abs x) :: s, h) else none
  | 3, .long y :: .long x :: s => bif Nat.ble (a_cat s) 8 then some ([], L, .long (a_maxJ x y) :: s, h) else none
  | 4, .long y :: .long x :: s => bif Nat.ble (a_cat s) 8 then some ([], L, .long (a_minJ x y) :: s, h) else none
  | 5, .long x :: s => bif Nat.ble (a_cat s) 8 then some ([], L, .long (a_absJ x) :: s, h) else none
  | 6, .int n :: .int dp :: .ref o1 :: .int sp :: .ref o0 :: s => (match h.1[o0]?, h.1[o1]? with
    | some (0, n0), some (0, n1) => bif Nat.ble (a_cat s) 8 then some ([¬ sp < 0 ∧ ¬ dp < 0 ∧ ¬ n < 0 ∧ sp.toNatClampNeg + n.toNatClampNeg ≤ n0 ∧ dp.toNatClampNeg + n.toNatClampNeg ≤ n1], L, s, a_uA h o1 (va_cpy (h.2.2.1 o0) (h.2.2.1 o1) sp.toNatClampNeg dp.toNatClampNeg n.toNatClampNeg)) else none
    | _, _ => none)
  | _, _ => none
def a_x1 (F : aF) (oc : Nat) (ini : Bool) (lim : Nat × Nat) (i : Instr) (L : aL) (S : List Value) (h : aH) : Option aE := match i with
  | .iconst n => some ([], L, .int (a_i n) :: S, h)
  | .bipush n => some ([], L, .int (a_i n) :: S, h)
  | .sipush n => some ([], L, .int (a_i n) :: S, h)
  | .lconst n => some ([], L, .long (lN (n : Nat)) :: S, h)
  | .ldc k => (match a_lk F.2.1 k with | some (.int v) => some ([], L, .int v :: S, h) | some (.ref v) => some ([], L, .ref v :: S, h) | _ => none)
  | .ldc_w k => (match a_lk F.2.1 k with | some (.int v) => some ([], L, .int v :: S, h) | _ => none)
  | .ldc2_w k => (match a_lk F.2.1 k with | some (.long v) => some ([], L, .long v :: S, h) | _ => none)
  | .iload k => a_il k L S h
  | .iload_n k => a_il k L S h
  | .lload k => a_jl k L S h
  | .lload_n k => a_jl k L S h
  | .aload k => a_al k L S h
  | .aload_n k => a_al k L S h
  | .istore k => a_is k L S h
  | .istore_n k => a_is k L S h
  | .lstore k => a_js k L S h
  | .lstore_n k => a_js k L S h
  | .astore k => a_as k L S h
  | .astore_n k => a_as k L S h
  | .iinc k n => (match a_ld L k with | some (.int x) => bif Nat.blt k L.length then some ([], a_s1 L k (.int (x + a_i n)), S, h) else none | _ => none)
  | .iadd => a_ii (fun x y => x + y) L h S
  | .isub => a_ii (fun x y => x - y) L h S
  | .imul => a_ii (fun x y => x * y) L h S
  | .iand => a_ii (fun x y => x &&& y) L h S
  | .ior => a_ii (fun x y => x ||| y) L h S
  | .ixor => a_ii (fun x y => x ^^^ y) L h S
  | .ishl => a_ii a_shl L h S
  | .ishr => a_ii a_shr L h S
  | .iushr => a_ii a_ushr L h S
  | .idiv => a_div (fun x y => x / y) L h S
  | .irem => a_div a_irm L h S
  | .ladd => a_jj (fun x y => x + y) L h S
  | .lsub => a_jj (fun x y => x - y) L h S
  | .lmul => a_jj (fun x y => x * y) L h S
  | .land => a_jj (fun x y => x &&& y) L h S
  | .lor => a_jj (fun x y => x ||| y) L h S
  | .ldiv => a_divJ (fun x y => x / y) L h S
  | .lrem => a_divJ a_jrm L h S
  | .lshl => a_ji a_jshl L h S
  | .lshr => a_ji a_jshr L h S
  | .ineg => (match S with | .int x :: s => some ([], L, .int (-x) :: s, h) | _ => none)
  | .lneg => (match S with | .long x :: s => some ([], L, .long (-x) :: s, h) | _ => none)
  | .i2l => (match S with | .int x :: s => some ([], L, .long x.toInt64 :: s, h) | _ => none)
  | .l2i => (match S with | .long x :: s => some ([], L, .int x.toInt32 :: s, h) | _ => none)
  | .i2c => (match S with | .int x :: s => some ([], L, .int (a_i2c x) :: s, h) | _ => none)
  | .lcmp => (match S with | .long y :: .long x :: s => some ([], L, .int (lg_cmp x y) :: s, h) | _ => none)
  | .dup => (match S with | v :: s => bif Nat.beq v.category 1 then some ([], L, v :: v :: s, h) else none | _ => none)
  | .pop => (match S with | v :: s => bif Nat.beq v.category 1 then some ([], L, s, h) else none | _ => none)
  | .dup2 => (match S with
    | .long x :: s => some ([], L, .long x :: .long x :: s, h)
    | v :: w :: s => bif Nat.beq v.category 1 && Nat.beq w.category 1 then some ([], L, v :: w :: v :: w :: s, h) else none
    | _ => none)
  | .getfield k => a_gf F k L S h
  | .putfield k => a_pf F oc ini k L S h
  | .iaload => a_ia L S h
  | .baload => a_za L S h
  | .laload => a_ja L S h
  | .aaload => a_qa L S h
  | .iastore => a_iw L S h
  | .bastore => a_zw L S h
  | .lastore => a_jw L S h
  | .aastore => a_qw L S h
  | .arraylength => a_len L S h
  | .newarray t => a_na lim t L S h
  | .anewarray k => a_nq lim F k L S h
  | .new k => a_no lim F k L S h
  | .invokestatic k => (match a_lk F.2.2 k with | some f => a_js_ f L S h | none => none)
  | .invokespecial k => (match a_lk F.2.2 k, S with | some 7, .ref _ :: s => bif Nat.ble (a_cat s) 8 then some ([], L, s, h) else none | _, _ => none)
  | _ => none
def a_xs (F : aF) (oc : Nat) (ini : Bool) (lim : Nat × Nat) : List Instr → aL → List Value → aH → Option aE
  | [], L, S, h => some ([], L, S, h)
  | i :: is, L, S, h => match a_x1 F oc ini lim i L S h with
    | none => none
    | some (cs, L1, S1, h1) => match a_xs F oc ini lim is L1 S1 h1 with
      | none => none
      | some (cs2, r) => some (cs ++ cs2, r)
def a_ln (i : Instr) : Nat := match i with
  | .bipush _ => 2 | .ldc _ => 2 | .iload _ => 2 | .lload _ => 2 | .aload _ => 2 | .istore _ => 2 | .lstore _ => 2 | .astore _ => 2 | .newarray _ => 2
  | .sipush _ => 3 | .ldc_w _ => 3 | .ldc2_w _ => 3 | .iinc _ _ => 3 | .getfield _ => 3 | .putfield _ => 3 | .new _ => 3 | .anewarray _ => 3 | .invokestatic _ => 3 | .invokespecial _ => 3 | .invokevirtual _ => 3
  | _ => 1
def a_wf (i : Instr) : Bool := match i with
  | .iconst n => decide (Int32.ofInt n = a_i n)
  | .bipush n => decide ((Int8.ofInt n).toInt32 = a_i n)
  | .sipush n => decide ((Int16.ofInt n).toInt32 = a_i n)
  | .iinc _ n => decide (Int32.ofInt n = a_i n)
  | _ => true
def a_ch (b : ByteArray) : Nat → List Instr → Nat → Bool
  | pc, [], e => Nat.beq pc e
  | pc, i :: is, e => decide (decode b pc = .ok (i, a_ln i)) && a_wf i && a_ch b (pc + a_ln i) is e
def a_cc (c : ClassFile.Cond) (x y : Int32) : Prop := match c with
  | .eq => x = y
  | .ne => ¬ x = y
  | .lt => x < y
  | .ge => y ≤ x
  | .gt => y < x
  | .le => x ≤ y
def a_pad (n : Nat) (l : aL) : aL := l ++ List.replicate (n - l.length) none
def a_ar : List Value → aL
  | [] => []
  | .long x :: vs => some (.long x) :: none :: a_ar vs
  | v :: vs => some v :: a_ar vs
