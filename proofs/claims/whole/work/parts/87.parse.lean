/-! ===== what stands there (pure) ===== -/
abbrev Rs (α : Type) : Type := Sum (Int × Nat) (Nat × α)
abbrev Fn : Type := En → Int
abbrev Gn : Type := En → Bool
/-- parts of a kind with signs between -/
def lpP {α : Type} (op : Int → Option (α → α → α)) (sub : Nat → Rs α) (K : Nat → Int) : Nat → Nat → α → Rs α
  | 0, j, f => .inr (j, f)
  | r + 1, j, f => match op (K j) with
    | none => .inr (j, f)
    | some g => match sub (j + 1) with
      | .inl b => .inl b
      | .inr q => lpP op sub K r q.1 (g f q.2)
def mnP {α : Type} (op : Int → Option (α → α → α)) (sub : Nat → Rs α) (K : Nat → Int) (i : Nat) : Rs α := match sub i with
  | .inl b => .inl b
  | .inr q => lpP op sub K 300 q.1 q.2
def opT (c : Int) : Option (Fn → Fn → Fn) := if c = 42 then some (fun f g v => lim (arS 8 (f v) (g v))) else if c = 47 then some (fun f g v => lim (arS 9 (f v) (g v))) else none
def opP (c : Int) : Option (Fn → Fn → Fn) := if c = 43 then some (fun f g v => lim (arS 6 (f v) (g v))) else if c = 45 then some (fun f g v => lim (arS 7 (f v) (g v))) else none
def opA (c : Int) : Option (Gn → Gn → Gn) := if c = 319 then some (fun f g v => f v && g v) else none
def opO (c : Int) : Option (Gn → Gn → Gn) := if c = 318 then some (fun f g v => f v || g v) else none
abbrev cmT (c : Int) : Prop := c = 60 ∨ c = 3 ∨ c = 62 ∨ c = 4 ∨ c = 61 ∨ c = 35
abbrev opnT (c : Int) : Prop := c = 40 ∨ c = 45 ∨ c = 312 ∨ c = 313 ∨ c = 314
def nmI (c : Int) : Nat := if c = 308 then 0 else if c = 321 then 1 else if c = 310 then 2 else if c = 322 then 3 else if c = 323 then 4 else if c = 309 then 5 else if c = 324 then 6 else if c = 325 then 7 else 8
abbrev nmP (s : Int) (k : Nat) : Prop := k < 5 ∨ (s = 0 ∧ (k = 5 ∨ k = 6)) ∨ (s = 1 ∧ k = 7)
def pOne (K V : Nat → Int) (s : Int) (opd : Nat → Nat → Rs Fn) (k i : Nat) : Rs Fn :=
  if K i = 1 then (if V i ≤ 9999 then .inr (i + 1, fun _ => V i) else .inl (2, i))
  else if opnT (K i) then (if 8 ≤ k then .inl (3, i) else opd (k + 1) i)
  else if nmI (K i) < 8 then (if nmP s (nmI (K i)) then .inr (i + 1, fun v => v.1 (nmI (K i))) else .inl (5, i))
  else .inl (1, i)
def pPrd (K V : Nat → Int) (s : Int) (opd : Nat → Nat → Rs Fn) (k i : Nat) : Rs Fn := mnP opT (pOne K V s opd k) K i
def pSum (K V : Nat → Int) (s : Int) (opd : Nat → Nat → Rs Fn) (k i : Nat) : Rs Fn := mnP opP (pPrd K V s opd k) K i
def pNt (K : Nat → Int) (k : Nat) : Nat → Nat → Nat → Nat × Nat
  | 0, i, m => (i, m)
  | r + 1, i, m => if K i = 320 ∧ k + m < 8 then pNt K k r (i + 1) (m + 1) else (i, m)
def ntB : Nat → Bool → Bool
  | 0, b => b
  | m + 1, b => !(ntB m b)
def pAsk2 (K V : Nat → Int) (s : Int) (opd : Nat → Nat → Rs Fn) (k m i : Nat) : Rs Gn :=
  match pSum K V s opd k i with
  | .inl b => .inl b
  | .inr q => if cmT (K q.1) then (match pSum K V s opd k (q.1 + 1) with
    | .inl b => .inl b
    | .inr p => .inr (p.1, fun v => ntB m (cmpS (K q.1) (q.2 v) (p.2 v)))) else .inl (1, q.1)
def pAsk (K V : Nat → Int) (s : Int) (opd : Nat → Nat → Rs Fn) (k i : Nat) : Rs Gn :=
  if K (pNt K k 9 i 0).1 = 320 then .inl (3, (pNt K k 9 i 0).1) else pAsk2 K V s opd (k + (pNt K k 9 i 0).2) (pNt K k 9 i 0).2 (pNt K k 9 i 0).1
def pBth (K V : Nat → Int) (s : Int) (opd : Nat → Nat → Rs Fn) (k i : Nat) : Rs Gn := mnP opA (pAsk K V s opd k) K i
def pEth (K V : Nat → Int) (s : Int) (opd : Nat → Nat → Rs Fn) (k i : Nat) : Rs Gn := mnP opO (pBth K V s opd k) K i
def pCh (K V : Nat → Int) (s : Int) (opd : Nat → Nat → Rs Fn) (k i : Nat) : Rs Fn :=
  match pEth K V s opd k i with
  | .inl b => .inl b
  | .inr q => if K q.1 = 315 then (match pSum K V s opd k (q.1 + 1) with
    | .inl b => .inl b
    | .inr p => if K p.1 = 316 then (match pSum K V s opd k (p.1 + 1) with
      | .inl b => .inl b
      | .inr w => if K w.1 = 317 then .inr (w.1 + 1, fun v => if q.2 v then p.2 v else w.2 v) else .inl (1, w.1)) else .inl (1, p.1)) else .inl (1, q.1)
def pOpB (K V : Nat → Int) (s : Int) (opd : Nat → Nat → Rs Fn) (k i : Nat) : Rs Fn :=
  if K i = 40 then (match pSum K V s opd k (i + 1) with
    | .inl b => .inl b
    | .inr q => if K q.1 = 41 then .inr (q.1 + 1, q.2) else .inl (1, q.1))
  else if K i = 45 then (match pOne K V s opd k (i + 1) with
    | .inl b => .inl b
    | .inr q => .inr (q.1, fun v => -q.2 v))
  else if K i = 312 then (match pOne K V s opd k (i + 1) with
    | .inl b => .inl b
    | .inr q => if K q.1 = 311 then (match pOne K V s opd k (q.1 + 1) with
      | .inl b => .inl b
      | .inr p => .inr (p.1, fun v => turnS (q.2 v) (p.2 v))) else .inl (1, q.1))
  else if K i = 313 then (match pOne K V s opd k (i + 1) with
    | .inl b => .inl b
    | .inr q => .inr (q.1, fun v => v.2 (q.2 v)))
  else pCh K V s opd k (i + 1)
def pOpd (K V : Nat → Int) (s : Int) : Nat → Nat → Nat → Rs Fn
  | 0 => fun _ i => .inl (0, i)
  | n + 1 => pOpB K V s (pOpd K V s n)
theorem bd_in {f : Fn} (h : Bd f) (v : En) (hv : EnOK v) : -1000000 ≤ f v ∧ f v ≤ 1000000 := h v hv
theorem CV.ar {s : Int} {C : Int → Int} {a b m need need2 c o : Int} {f g : En → Int} (h : CV s C a b need f) (h' : CV s C b m need2 g) (hC : C m = c) (hc : (c = 43 ∧ o = 6) ∨ (c = 45 ∧ o = 7) ∨ (c = 42 ∧ o = 8) ∨ (c = 47 ∧ o = 9)) (k : Int) (hk : need ≤ k ∧ need2 + 1 ≤ k) : CV s C a (m + 1) k (fun v => lim (arS o (f v) (g v))) := by
  rcases hc with ⟨rfl, rfl⟩ | ⟨rfl, rfl⟩ | ⟨rfl, rfl⟩ | ⟨rfl, rfl⟩
  · exact CV.add h h' hC k hk
  · exact CV.sub h h' hC k hk
  · exact CV.mul h h' hC k hk
  · exact CV.div h h' hC k hk
