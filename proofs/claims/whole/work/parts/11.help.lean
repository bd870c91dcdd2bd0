/-! short names of the functions' text, and how tables are checked -/
def jrem (x y : Int32) : Int32 := x - x / y * y
def jshl (x y : Int32) : Int32 := x <<< (y &&& 31)
def jshr (x y : Int32) : Int32 := x >>> (y &&& 31)
def jushr (x y : Int32) : Int32 := (x.toUInt32 >>> (y.toUInt32 &&& Int32.toUInt32 31)).toInt32
def jlshr (x : Int64) (y : Int32) : Int64 := x >>> (y.toInt64 &&& 63)
def pZ (h : XH) (a d x : Nat) (v : Int32) (k : XH → XR) : XR := if v = 0 ∨ v = 1 then pV h a d x (.int v) k else none
def rN7 (v : Int32) (h : XH) : XR := if narrow .byte (.int v) = .int v then rI v h else none
def rN8 (v : Int32) (h : XH) : XR := if narrow .char (.int v) = .int v then rI v h else none
/-- more turns than any loop takes -/
def LF : Nat := 20000
theorem xfind_mem {α : Type} {L : List (Nat × α)} {i : Nat} {x : α} (h : xfind L i = some x) : (i, x) ∈ L := by
  induction L with
  | nil => cases h
  | cons q r ih =>
    simp only [xfind] at h
    split at h
    · rename_i e1
      cases h
      subst e1
      exact List.mem_cons_self
    · exact List.mem_cons_of_mem _ (ih h)
theorem xcuts_ok {L : List (Nat × (List Nat × (List Value → List Value → XH → XR)))} {cc : ByteArray} {nL : Nat} {own : String} {rk fr lo : Nat} (h : ∀ q ∈ L, XTo cc nL own rk fr lo q.1 q.2.1 q.2.2) : ∀ pc live f, xfind L pc = some (live, f) → XTo cc nL own rk fr lo pc live f := fun _ _ _ hf => h _ (xfind_mem hf)
theorem XTo.none {cc : ByteArray} {nL : Nat} {own : String} {rk fr lo pc : Nat} {live : List Nat} {f : List Value → List Value → XH → XR} (h : ∀ vs st h, f vs st h = none) : XTo cc nL own rk fr lo pc live f := by
  intro p l e s m args below meth c Q G z N0 C vs st hh
  rw [h]
  exact XSim.none
def XKonst (own : String) (q : Nat × Value) : Prop := match q.2 with
  | .int v => Cond.constant own q.1 v ∈ xw
  | .float v => Cond.constantFloat own q.1 v ∈ xw
  | .long v => Cond.constantLong own q.1 v ∈ xw
  | _ => False
def xrowb (K : List (Nat × Value)) (cps : List (Nat × Int32)) (w : XRow) : Bool := match w.1 with
  | .ldc ix => (match w.2.2.2.1 with
    | .null => true
    | .int v => decide ((ix, Value.int v) ∈ K)
    | .float v => decide ((ix, Value.float v) ∈ K)
    | _ => false)
  | .ldc_w ix => (match w.2.2.2.1 with
    | .int v => decide ((ix, Value.int v) ∈ K)
    | .float v => decide ((ix, Value.float v) ∈ K)
    | _ => false)
  | .ldc2_w ix => (match w.2.2.2.1 with
    | .long v => decide ((ix, Value.long v) ∈ K)
    | _ => false)
  | .invokestatic ix => (match w.2.2.2.1 with
    | .null => true
    | .int v => decide ((ix, v) ∈ cps)
    | _ => false)
  | _ => true
theorem xok_of {rows : List (Nat × XRow)} {fts : List (Nat × (Nat × Nat × Nat))} {mts : List (Nat × XM)} {rk : Nat} {sts : List (Nat × (Nat × Nat))} {cc : ByteArray} {nL : Nat} {own : String} {fr lo : Nat} {cps : List (Nat × Int32)} {K : List (Nat × Value)}
    (h : rows.all (fun q => decide (decode cc q.1 = .ok (q.2.1, q.2.2.1 - q.1)) && xok nL q.1 q.2 && xrowb K cps q.2) = true) (hK : ∀ q ∈ K, XKonst own q) (hcp : ∀ q ∈ cps, XIn own q.1 q.2 (xrm fr lo)) (hf : ∀ ix d x kd, xfind fts ix = some (d, x, kd) → XFld own ix d x kd) (hm : ∀ q ∈ mts, XCall own q.1 fr lo q.2)
    (hs : ∀ ix k kd, xfind sts ix = some (k, kd) → XStc own ix k kd) : XOK (rows, fts, mts, rk, sts) cc nL own fr lo := by
  refine ⟨fun pc w hw => ?_, hf, fun ix o ho => hm _ (xfind_mem ho), hs⟩
  have h1 := List.all_eq_true.mp h _ (xfind_mem hw)
  simp only [Bool.and_eq_true, decide_eq_true_eq] at h1
  obtain ⟨⟨h1, h2⟩, h3⟩ := h1
  refine ⟨h1, h2, ?_, fun v h9 ix hix => ?_⟩
  · obtain ⟨i, nx, ix, val, sw⟩ := w
    cases i <;> simp only [XCon]
    case ldc k =>
      simp only [xrowb] at h3
      split at h3
      · trivial
      · exact hK _ (of_decide_eq_true h3)
      · exact hK _ (of_decide_eq_true h3)
      · cases h3
    case ldc_w k =>
      simp only [xrowb] at h3
      split at h3
      · exact hK _ (of_decide_eq_true h3)
      · exact hK _ (of_decide_eq_true h3)
      · cases h3
    case ldc2_w k =>
      simp only [xrowb] at h3
      split at h3
      · exact hK _ (of_decide_eq_true h3)
      · cases h3
  · simp only [xrowb, hix, h9] at h3
    exact hcp (ix, v) (of_decide_eq_true h3)
theorem xfld_of {L : List (Nat × (Nat × Nat × Nat))} {own : String} (h : ∀ q ∈ L, XFld own q.1 q.2.1 q.2.2.1 q.2.2.2) : ∀ ix d x kd, xfind L ix = some (d, x, kd) → XFld own ix d x kd := fun _ _ _ _ hf => h _ (xfind_mem hf)
theorem xstc_of {L : List (Nat × (Nat × Nat))} {own : String} (h : ∀ q ∈ L, XStc own q.1 q.2.1 q.2.2) : ∀ ix k kd, xfind L ix = some (k, kd) → XStc own ix k kd := fun _ _ _ hf => h _ (xfind_mem hf)
