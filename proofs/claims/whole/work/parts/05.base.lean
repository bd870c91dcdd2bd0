/-! The abstract machine: values of the machine, a heap of plain things, and one function that runs a body from cut to cut. -/
abbrev XE : Type := (Nat × Nat × (Nat → Int32)) ⊕ ((Nat × Nat × (Nat → Option Nat)) ⊕ (Nat × (Nat → Value)))
/-- what nobody writes: statics and texts' addresses; arrays of ints; arrays of bytes; texts -/
abbrev XSt : Type := (Nat → Value) × (Nat → Option (Nat × (Nat → Int32))) × (Nat → Option (Nat × (Nat → Int32))) × (Nat → Option (Nat → Value))
abbrev XH : Type := XSt × (Nat → Option XE)
abbrev XR : Type := Option (Option Value × XH)
abbrev XLV : Type := List (Nat × Value)
abbrev XK : Type := Nat → XLV → List Value → XH → XR
def xhs (h : XH) (a : Nat) (e : XE) : XH := (h.1, fun b => if b = a then some e else h.2 b)
abbrev xnum (t n : Nat) (f : Nat → Int32) : XE := .inl (t, n, f)
abbrev xref (c n : Nat) (f : Nat → Option Nat) : XE := .inr (.inl (c, n, f))
abbrev xobj (d : Nat) (F : Nat → Value) : XE := .inr (.inr (d, F))
def ob {α : Type} (o : Option α) (k : α → XR) : XR := match o with
  | some v => k v
  | none => none
def vdI (h : XH) (a : Nat) (i : Int32) : Option Int32 := match h.2 a with
  | some (.inl (t, n, f)) => if t = 0 ∧ 0 ≤ i ∧ i.toNatClampNeg < n then some (f i.toNatClampNeg) else none
  | none => (match h.1.2.1 a with
    | some (n, f) => if 0 ≤ i ∧ i.toNatClampNeg < n then some (f i.toNatClampNeg) else none
    | none => none)
  | _ => none
def rdI (h : XH) (a : Nat) (i : Int32) (k : Int32 → XR) : XR := ob (vdI h a i) k
def vdB (h : XH) (a : Nat) (i : Int32) : Option Int32 := match h.2 a with
  | some (.inl (t, n, f)) => if (t = 1 ∨ t = 2) ∧ 0 ≤ i ∧ i.toNatClampNeg < n then some (f i.toNatClampNeg) else none
  | none => (match h.1.2.2.1 a with
    | some (n, f) => if 0 ≤ i ∧ i.toNatClampNeg < n then some (f i.toNatClampNeg) else none
    | none => none)
  | _ => none
def rdB (h : XH) (a : Nat) (i : Int32) (k : Int32 → XR) : XR := ob (vdB h a i) k
def wrI (h : XH) (a : Nat) (i v : Int32) (k : XH → XR) : XR := match h.2 a with
  | some (.inl (t, n, f)) => if t = 0 ∧ 0 ≤ i ∧ i.toNatClampNeg < n then k (xhs h a (xnum t n (upd f i.toNatClampNeg v))) else none
  | _ => none
def vwB (t : Nat) (v : Int32) : Option Int32 := if t = 1 then some v.toInt8.toInt32 else if t = 2 ∧ (v = 0 ∨ v = 1) then some v else none
def wrB (h : XH) (a : Nat) (i v : Int32) (k : XH → XR) : XR := match h.2 a with
  | some (.inl (t, n, f)) => if 0 ≤ i ∧ i.toNatClampNeg < n then ob (vwB t v) (fun x => k (xhs h a (xnum t n (upd f i.toNatClampNeg x)))) else none
  | _ => none
def vdR (h : XH) (a : Nat) (i : Int32) : Option Nat := match h.2 a with
  | some (.inr (.inl (_, n, f))) => if 0 ≤ i ∧ i.toNatClampNeg < n then f i.toNatClampNeg else none
  | _ => none
def rdR (h : XH) (a : Nat) (i : Int32) (k : Nat → XR) : XR := ob (vdR h a i) k
def vlA (h : XH) (a : Nat) : Option Int32 := match h.2 a with
  | some (.inl (_, n, _)) => some (Int32.ofNat n)
  | some (.inr (.inl (_, n, _))) => some (Int32.ofNat n)
  | none => (match h.1.2.1 a with
    | some (n, _) => some (Int32.ofNat n)
    | none => (match h.1.2.2.1 a with
      | some (n, _) => some (Int32.ofNat n)
      | none => none))
  | _ => none
def lnA (h : XH) (a : Nat) (k : Int32 → XR) : XR := ob (vlA h a) k
/-- the fields of an object of a class -/
def vO (h : XH) (a d : Nat) : Option (Nat → Value) := match h.2 a with
  | some (.inr (.inr (c, F))) => if c = d then some F else none
  | none => if d = 10 then h.1.2.2.2 a else none
  | _ => none
def vI (h : XH) (a d x : Nat) : Option Int32 := match vO h a d with
  | some F => (match F x with
    | .int v => some v
    | _ => none)
  | none => none
def vR (h : XH) (a d x : Nat) : Option Nat := match vO h a d with
  | some F => (match F x with
    | .ref v => some v
    | _ => none)
  | none => none
def vL (h : XH) (a d x : Nat) : Option Int64 := match vO h a d with
  | some F => (match F x with
    | .long v => some v
    | _ => none)
  | none => none
def gI (h : XH) (a d x : Nat) (k : Int32 → XR) : XR := ob (vI h a d x) k
def gR (h : XH) (a d x : Nat) (k : Nat → XR) : XR := ob (vR h a d x) k
def gL (h : XH) (a d x : Nat) (k : Int64 → XR) : XR := ob (vL h a d x) k
def pV (h : XH) (a d x : Nat) (v : Value) (k : XH → XR) : XR := match h.2 a with
  | some (.inr (.inr (c, F))) => if c = d then k (xhs h a (xobj c (updV F x v))) else none
  | _ => none
def gS (h : XH) (x : Nat) (k : Nat → XR) : XR := match h.1.1 x with
  | .ref v => k v
  | _ => none
def gT (h : XH) (x : Nat) (k : Int32 → XR) : XR := match h.1.1 x with
  | .int v => k v
  | _ => none
def isO (h : XH) (a d : Nat) (k : XR) : XR := ob (vO h a d) (fun _ => k)
def wrR (h : XH) (a : Nat) (i : Int32) (v : Nat) (k : XH → XR) : XR := match h.2 a with
  | some (.inr (.inl (c, n, f))) => if 0 ≤ i ∧ i.toNatClampNeg < n then isO h v c (k (xhs h a (xref c n (va_up f i.toNatClampNeg (some v))))) else none
  | _ => none
def cpI (h : XH) (s : Nat) (sp : Int32) (d : Nat) (dp n : Int32) (k : XH → XR) : XR := match h.2 s, h.2 d with
  | some (.inl (t, m, f)), some (.inl (u, q, g)) => if (t = 0 ∧ u = 0 ∧ s ≠ d) ∧ (0 ≤ sp ∧ 0 ≤ dp ∧ 0 ≤ n) ∧ sp.toNatClampNeg + n.toNatClampNeg ≤ m ∧ dp.toNatClampNeg + n.toNatClampNeg ≤ q then k (xhs h d (xnum u q (va_cpy f g sp.toNatClampNeg dp.toNatClampNeg n.toNatClampNeg))) else none
  | _, _ => none
def bI (X : XR) (k : Int32 → XH → XR) : XR := match X with
  | some (some (.int r), h) => k r h
  | _ => none
def bV (X : XR) (k : XH → XR) : XR := match X with
  | some (none, h) => k h
  | _ => none
def bF (X : XR) (k : UInt32 → XH → XR) : XR := match X with
  | some (some (.float r), h) => k r h
  | _ => none
def bD (X : XR) (k : UInt64 → XH → XR) : XR := match X with
  | some (some (.double r), h) => k r h
  | _ => none
abbrev rI (v : Int32) (h : XH) : XR := some (some (.int v), h)
abbrev rV (h : XH) : XR := some (none, h)
abbrev rF (v : UInt32) (h : XH) : XR := some (some (.float v), h)
abbrev rD (v : UInt64) (h : XH) : XR := some (some (.double v), h)
def rZ (v : Int32) (h : XH) : XR := if v = 0 ∨ v = 1 then some (some (.int v), h) else none
def fdv (x y : UInt32) (k : UInt32 → XR) : XR := if FP.fdiv x y &&& 0x7fffffff ≤ 0x7f800000 then k (FP.fdiv x y) else none
def ddv (x y : UInt64) (k : UInt64 → XR) : XR := if FP.ddiv x y &&& 0x7fffffffffffffff ≤ 0x7ff0000000000000 then k (FP.ddiv x y) else none
def f2dv (x : UInt32) (k : UInt64 → XR) : XR := if FP.f2d x &&& 0x7fffffffffffffff ≤ 0x7ff0000000000000 then k (FP.f2d x) else none
/-! locals -/
def xlk : XLV → Nat → Option Value
  | [], _ => none
  | q :: r, i => if q.1 = i then some q.2 else xlk r i
abbrev xst (lv : XLV) (i : Nat) (v : Value) : XLV := (i, v) :: lv.filter (fun q => !(q.1 == i) && !(q.1 + 1 == i && q.2.category == 2))
abbrev xst2 (lv : XLV) (i : Nat) (v : Value) : XLV := (i, v) :: lv.filter (fun q => !(q.1 == i) && (!(q.1 == i + 1) && !(q.1 + 1 == i && q.2.category == 2)))
def xpick (lv : XLV) : List Nat → Option (List Value)
  | [] => some []
  | i :: r => match xlk lv i with
    | some v => match xpick lv r with
      | some vs => some (v :: vs)
      | none => none
    | none => none
/-! a body: rows (instruction, next, index or target, constant, cases of a switch); fields; calls; kind of its end -/
abbrev XRow : Type := Instr × Nat × Nat × Value × List (Int32 × Nat)
abbrev XM : Type := Nat × Nat × Option Nat × (List Value → XH → XR)
abbrev XB : Type := List (Nat × XRow) × List (Nat × (Nat × Nat × Nat)) × List (Nat × XM) × Nat × List (Nat × (Nat × Nat))
def xfind {α : Type} : List (Nat × α) → Nat → Option α
  | [], _ => none
  | q :: r, i => if q.1 = i then some q.2 else xfind r i
def xsw (k : Nat → XR) : List (Int32 × Nat) → Nat → Int32 → XR
  | [], d, _ => k d
  | q :: r, d, x => if x = q.1 then k q.2 else xsw k r d x
def xcond (c : ClassFile.Cond) (x : Int32) (T F : XR) : XR := match c with
  | .eq => if x = 0 then T else F
  | .ne => if x = 0 then F else T
  | .lt => if x < 0 then T else F
  | .ge => if x < 0 then F else T
  | .gt => if 0 < x then T else F
  | .le => if 0 < x then F else T
def xcmp (c : ClassFile.Cond) (x y : Int32) (T F : XR) : XR := match c with
  | .eq => if x = y then T else F
  | .ne => if x = y then F else T
  | .lt => if x < y then T else F
  | .ge => if x < y then F else T
  | .gt => if y < x then T else F
  | .le => if y < x then F else T
def xret (rk : Nat) (i : Instr) (st : List Value) (h : XH) : XR := match i, st with
  | .ireturn, [.int v] => if rk = 1 then rI v h else if rk = 6 then rZ v h else if rk = 7 then (if narrow .byte (.int v) = .int v then rI v h else none) else if rk = 8 then (if narrow .char (.int v) = .int v then rI v h else none) else none
  | .return_, [] => if rk = 0 then rV h else none
  | .freturn, [.float v] => if rk = 2 then rF v h else none
  | .dreturn, [.double v] => if rk = 3 then rD v h else none
  | _, _ => none
def bK (kd : Nat) (X : XR) (k : List Value → XH → XR) : XR := match kd with
  | 0 => bV X (fun h => k [] h)
  | 1 => bI X (fun r h => k [.int r] h)
  | 2 => bF X (fun r h => k [.float r] h)
  | 3 => bD X (fun r h => k [.double r] h)
  | _ => none
def xcallV (o : Option XM) (st : List Value) (h : XH) (k : List Value → XH → XR) : XR := match o with
  | some (na, kd, some d, f) => match (st.take na).reverse with
    | .ref a :: as => if as.length + 1 = na ∧ ((st.drop na).map fun v => v.category).sum ≤ 8 then isO h a d (bK kd (f (.ref a :: as) h) (fun rs h1 => k (rs ++ st.drop na) h1)) else none
    | _ => none
  | _ => none
def xcallS (o : Option XM) (st : List Value) (h : XH) (k : List Value → XH → XR) : XR := match o with
  | some (na, kd, none, f) => if na ≤ st.length ∧ ((st.drop na).map fun v => v.category).sum ≤ 8 then bK kd (f (st.take na).reverse h) (fun rs h1 => k (rs ++ st.drop na) h1) else none
  | _ => none
def jabs (x : Int32) : Int32 := if 0 ≤ x then x else 0 - x
def jmax (x y : Int32) : Int32 := if x < y then y else x
def jmin (x y : Int32) : Int32 := if y < x then y else x
def xstep (B : XB) (w : XRow) (lv : XLV) (st : List Value) (h : XH) (K : XK) : XR := match w.1 with
  | .iload _ | .iload_n _ => match xlk lv w.2.2.1 with
    | some (.int v) => K w.2.1 lv (.int v :: st) h
    | _ => none
  | .aload _ | .aload_n _ => match xlk lv w.2.2.1 with
    | some (.ref v) => K w.2.1 lv (.ref v :: st) h
    | _ => none
  | .lload _ | .lload_n _ => match xlk lv w.2.2.1 with
    | some (.long v) => K w.2.1 lv (.long v :: st) h
    | _ => none
  | .dload _ | .dload_n _ => match xlk lv w.2.2.1 with
    | some (.double v) => K w.2.1 lv (.double v :: st) h
    | _ => none
  | .iconst _ | .bipush _ | .sipush _ | .lconst _ | .dconst _ | .ldc_w _ | .ldc2_w _ => K w.2.1 lv (w.2.2.2.1 :: st) h
  | .ldc _ => match w.2.2.2.1 with
    | .null => (match xfind B.2.2.2.2 w.2.2.1 with
      | some (k, kd) => if kd = 7 then gS h (10 + k) (fun a => K w.2.1 lv (.ref a :: st) h) else none
      | none => none)
    | v => K w.2.1 lv (v :: st) h
  | .istore _ | .istore_n _ => match st with
    | .int v :: r => K w.2.1 (xst lv w.2.2.1 (.int v)) r h
    | _ => none
  | .astore _ | .astore_n _ => match st with
    | .ref v :: r => K w.2.1 (xst lv w.2.2.1 (.ref v)) r h
    | _ => none
  | .dstore _ | .dstore_n _ => match st with
    | .double v :: r => K w.2.1 (xst2 lv w.2.2.1 (.double v)) r h
    | _ => none
  | .iinc _ _ => match xlk lv w.2.2.1, w.2.2.2.1 with
    | some (.int v), .int c => K w.2.1 (xst lv w.2.2.1 (.int (v + c))) st h
    | _, _ => none
  | .iadd => match st with
    | .int y :: .int x :: r => K w.2.1 lv (.int (x + y) :: r) h
    | _ => none
  | .isub => match st with
    | .int y :: .int x :: r => K w.2.1 lv (.int (x - y) :: r) h
    | _ => none
  | .imul => match st with
    | .int y :: .int x :: r => K w.2.1 lv (.int (x * y) :: r) h
    | _ => none
  | .idiv => match st with
    | .int y :: .int x :: r => if y = 0 then none else K w.2.1 lv (.int (x / y) :: r) h
    | _ => none
  | .irem => match st with
    | .int y :: .int x :: r => if y = 0 then none else K w.2.1 lv (.int (x - x / y * y) :: r) h
    | _ => none
  | .ineg => match st with
    | .int x :: r => K w.2.1 lv (.int (-x) :: r) h
    | _ => none
  | .iand => match st with
    | .int y :: .int x :: r => K w.2.1 lv (.int (x &&& y) :: r) h
    | _ => none
  | .ior => match st with
    | .int y :: .int x :: r => K w.2.1 lv (.int (x ||| y) :: r) h
    | _ => none
  | .ixor => match st with
    | .int y :: .int x :: r => K w.2.1 lv (.int (x ^^^ y) :: r) h
    | _ => none
  | .ishl => match st with
    | .int y :: .int x :: r => K w.2.1 lv (.int (x <<< (y &&& 31)) :: r) h
    | _ => none
  | .ishr => match st with
    | .int y :: .int x :: r => K w.2.1 lv (.int (x >>> (y &&& 31)) :: r) h
    | _ => none
  | .iushr => match st with
    | .int y :: .int x :: r => K w.2.1 lv (.int (x.toUInt32 >>> (y.toUInt32 &&& Int32.toUInt32 31)).toInt32 :: r) h
    | _ => none
  | .i2l => match st with
    | .int x :: r => K w.2.1 lv (.long x.toInt64 :: r) h
    | _ => none
  | .l2i => match st with
    | .long x :: r => K w.2.1 lv (.int x.toInt32 :: r) h
    | _ => none
  | .i2c => match st with
    | .int x :: r => K w.2.1 lv (.int (x.toUInt32 % 65536).toInt32 :: r) h
    | _ => none
  | .i2b => match st with
    | .int x :: r => K w.2.1 lv (.int x.toInt8.toInt32 :: r) h
    | _ => none
  | .i2f => match st with
    | .int x :: r => K w.2.1 lv (.float (FP.i2f x) :: r) h
    | _ => none
  | .i2d => match st with
    | .int x :: r => K w.2.1 lv (.double (FP.i2d x) :: r) h
    | _ => none
  | .f2d => match st with
    | .float x :: r => f2dv x (fun v => K w.2.1 lv (.double v :: r) h)
    | _ => none
  | .fdiv => match st with
    | .float y :: .float x :: r => fdv x y (fun v => K w.2.1 lv (.float v :: r) h)
    | _ => none
  | .ddiv => match st with
    | .double y :: .double x :: r => ddv x y (fun v => K w.2.1 lv (.double v :: r) h)
    | _ => none
  | .dcmp op => match st with
    | .double y :: .double x :: r => K w.2.1 lv (.int (Op.cmpValue (FP.dcmp x y) op) :: r) h
    | _ => none
  | .ladd => match st with
    | .long y :: .long x :: r => K w.2.1 lv (.long (x + y) :: r) h
    | _ => none
  | .lmul => match st with
    | .long y :: .long x :: r => K w.2.1 lv (.long (x * y) :: r) h
    | _ => none
  | .land => match st with
    | .long y :: .long x :: r => K w.2.1 lv (.long (x &&& y) :: r) h
    | _ => none
  | .lshr => match st with
    | .int y :: .long x :: r => K w.2.1 lv (.long (x >>> (y.toInt64 &&& 63)) :: r) h
    | _ => none
  | .lcmp => match st with
    | .long y :: .long x :: r => K w.2.1 lv (.int (lg_cmp x y) :: r) h
    | _ => none
  | .dup => match st with
    | x :: r => if x.category = 1 then K w.2.1 lv (x :: x :: r) h else none
    | _ => none
  | .dup2 => match st with
    | x :: y :: r => if x.category = 1 ∧ y.category = 1 then K w.2.1 lv (x :: y :: x :: y :: r) h else none
    | _ => none
  | .pop => match st with
    | x :: r => if x.category = 1 then K w.2.1 lv r h else none
    | _ => none
  | .goto _ => K w.2.2.1 lv st h
  | .ifCond c _ => match st with
    | .int x :: r => xcond c x (K w.2.2.1 lv r h) (K w.2.1 lv r h)
    | _ => none
  | .if_icmp c _ => match st with
    | .int y :: .int x :: r => xcmp c x y (K w.2.2.1 lv r h) (K w.2.1 lv r h)
    | _ => none
  | .tableswitch _ _ _ _ | .lookupswitch _ _ => match st with
    | .int x :: r => xsw (fun t => K t lv r h) w.2.2.2.2 w.2.2.1 x
    | _ => none
  | .iaload => match st with
    | .int i :: .ref a :: r => rdI h a i (fun v => K w.2.1 lv (.int v :: r) h)
    | _ => none
  | .baload => match st with
    | .int i :: .ref a :: r => rdB h a i (fun v => K w.2.1 lv (.int v :: r) h)
    | _ => none
  | .aaload => match st with
    | .int i :: .ref a :: r => rdR h a i (fun v => K w.2.1 lv (.ref v :: r) h)
    | _ => none
  | .iastore => match st with
    | .int v :: .int i :: .ref a :: r => wrI h a i v (fun h => K w.2.1 lv r h)
    | _ => none
  | .aastore => match st with
    | .ref v :: .int i :: .ref a :: r => wrR h a i v (fun h => K w.2.1 lv r h)
    | _ => none
  | .bastore => match st with
    | .int v :: .int i :: .ref a :: r => wrB h a i v (fun h => K w.2.1 lv r h)
    | _ => none
  | .arraylength => match st with
    | .ref a :: r => lnA h a (fun v => K w.2.1 lv (.int v :: r) h)
    | _ => none
  | .getfield _ => match xfind B.2.1 w.2.2.1, st with
    | some (d, x, kd), .ref a :: r => if kd = 1 then gI h a d x (fun v => K w.2.1 lv (.int v :: r) h) else if kd = 4 then gR h a d x (fun v => K w.2.1 lv (.ref v :: r) h) else if kd = 5 then gL h a d x (fun v => K w.2.1 lv (.long v :: r) h) else if kd = 2 ∨ kd = 8 then gI h a d x (fun v => K w.2.1 lv (.int v :: r) h) else none
    | _, _ => none
  | .putfield _ => match xfind B.2.1 w.2.2.1, st with
    | some (d, x, kd), .int v :: .ref a :: r => if kd = 1 then pV h a d x (.int v) (fun h => K w.2.1 lv r h) else if kd = 2 then (if v = 0 ∨ v = 1 then pV h a d x (.int v) (fun h => K w.2.1 lv r h) else none) else none
    | some (d, x, kd), .long v :: .ref a :: r => if kd = 5 then pV h a d x (.long v) (fun h => K w.2.1 lv r h) else none
    | _, _ => none
  | .getstatic _ => match xfind B.2.2.2.2 w.2.2.1 with
    | some (k, kd) => if kd = 4 then gS h k (fun a => K w.2.1 lv (.ref a :: st) h) else if kd = 1 then gT h k (fun v => K w.2.1 lv (.int v :: st) h) else if kd = 0 then K w.2.1 lv (h.1.1 k :: st) h else none
    | none => none
  | .invokevirtual _ => xcallV (xfind B.2.2.1 w.2.2.1) st h (fun st h => K w.2.1 lv st h)
  | .invokestatic _ => if w.2.2.2.1 = .int 9 then (match st with
      | .int n :: .int dp :: .ref d :: .int sp :: .ref s :: r => if (r.map fun v => v.category).sum ≤ 8 then cpI h s sp d dp n (fun h => K w.2.1 lv r h) else none
      | _ => none) else if w.2.2.2.1 = .int 1 then (match st with
      | .int x :: r => if (r.map fun v => v.category).sum ≤ 8 then K w.2.1 lv (.int (jabs x) :: r) h else none
      | _ => none) else if w.2.2.2.1 = .int 2 then (match st with
      | .int y :: .int x :: r => if (r.map fun v => v.category).sum ≤ 8 then K w.2.1 lv (.int (jmax x y) :: r) h else none
      | _ => none) else if w.2.2.2.1 = .int 3 then (match st with
      | .int y :: .int x :: r => if (r.map fun v => v.category).sum ≤ 8 then K w.2.1 lv (.int (jmin x y) :: r) h else none
      | _ => none) else xcallS (xfind B.2.2.1 w.2.2.1) st h (fun st h => K w.2.1 lv st h)
  | i => xret B.2.2.2.1 i st h
abbrev XCut : Type := Nat → Option (List Nat × (List Value → List Value → XH → XR))
def xgo (cut : XCut) (k : XK) : XK := fun pc lv st h => match cut pc with
  | some (live, f) => match xpick lv live with
    | some vs => f vs st h
    | none => none
  | none => k pc lv st h
def xrun (B : XB) (cut : XCut) : Nat → XK
  | 0, _, _, _, _ => none
  | n + 1, pc, lv, st, h => match xfind B.1 pc with
    | some w => xstep B w lv st h (xgo cut (xrun B cut n))
    | none => none
