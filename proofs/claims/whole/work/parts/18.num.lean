/-! numbers of the machine as integers -/
def J (i : Int) : Int32 := Int32.ofInt i
theorem J_add (a b : Int) : J a + J b = J (a + b) := (Int32.ofInt_add a b).symm
theorem J_sub (a b : Int) : J a - J b = J (a - b) := (Int32.ofInt_sub a b).symm
theorem J_mul (a b : Int) : J a * J b = J (a * b) := (Int32.ofInt_mul a b).symm
theorem J_neg (a : Int) : -(J a) = J (-a) := (Int32.ofInt_neg a).symm
theorem J_of (x : Int32) : J x.toInt = x := Int32.ofInt_toInt x
theorem J_to {a : Int} (h1 : -2147483648 ≤ a) (h2 : a < 2147483648) : (J a).toInt = a := Int32.toInt_ofInt_of_le h1 h2
theorem J_ex (x : Int32) : ∃ a : Int, x = J a ∧ -2147483648 ≤ a ∧ a < 2147483648 := ⟨x.toInt, (J_of x).symm, Int32.le_toInt x, Int32.toInt_lt x⟩
theorem J_lt {a b : Int} (h : -2147483648 ≤ a ∧ a < 2147483648 ∧ -2147483648 ≤ b ∧ b < 2147483648) : (J a < J b) = (a < b) := propext (by rw [Int32.lt_iff_toInt_lt, J_to h.1 h.2.1, J_to h.2.2.1 h.2.2.2])
theorem J_le {a b : Int} (h : -2147483648 ≤ a ∧ a < 2147483648 ∧ -2147483648 ≤ b ∧ b < 2147483648) : (J a ≤ J b) = (a ≤ b) := propext (by rw [Int32.le_iff_toInt_le, J_to h.1 h.2.1, J_to h.2.2.1 h.2.2.2])
theorem J_eq {a b : Int} (h : -2147483648 ≤ a ∧ a < 2147483648 ∧ -2147483648 ≤ b ∧ b < 2147483648) : (J a = J b) = (a = b) := propext ⟨fun e => by rw [← J_to h.1 h.2.1, e, J_to h.2.2.1 h.2.2.2], fun e => by rw [e]⟩
theorem J_nat {a : Int} (h1 : 0 ≤ a) (h2 : a < 2147483648) : (J a).toNatClampNeg = a.toNat := by
  show (J a).toInt.toNat = a.toNat
  rw [J_to (by omega) h2]
theorem J_lit (n : Nat) : Int32.ofNat n = J n := rfl
abbrev ok32 (a : Int) : Prop := -2147483648 ≤ a ∧ a < 2147483648
theorem J_div {a b : Int} (ha : -2147483648 < a) (ha2 : a < 2147483648) (hb : 0 < b) (hb2 : b < 2147483648) : J a / J b = J (a.tdiv b) := by
  apply Int32.toInt_inj.mp
  have hne : (J a).toInt ≠ Int32.minValue.toInt := by rw [J_to (by omega) ha2]; show a ≠ -2147483648; omega
  rw [Int32.toInt_div_of_ne_left _ _ (fun e => hne (by rw [e])), J_to (by omega) ha2, J_to (by omega) hb2, J_to]
  · have := Int.natAbs_tdiv a b
    have h3 : (a.tdiv b).natAbs ≤ a.natAbs := by rw [this]; exact Nat.div_le_self _ _
    omega
  · have := Int.natAbs_tdiv a b
    have h3 : (a.tdiv b).natAbs ≤ a.natAbs := by rw [this]; exact Nat.div_le_self _ _
    omega
theorem J_abs {a : Int} (h : -2147483648 ≤ a ∧ a < 2147483648) : jabs (J a) = J a.natAbs := by
  unfold jabs
  simp only [show (0 : Int32) = J 0 from rfl, J_le (a := 0) (b := a) ⟨by omega, by omega, h.1, h.2⟩, J_sub]
  split
  · congr 1; omega
  · congr 1; omega
theorem J_max {a b : Int} (h : -2147483648 ≤ a ∧ a < 2147483648 ∧ -2147483648 ≤ b ∧ b < 2147483648) : jmax (J a) (J b) = J (max a b) := by
  unfold jmax
  simp only [J_lt h]
  split
  · congr 1; omega
  · congr 1; omega
theorem J_min {a b : Int} (h : -2147483648 ≤ a ∧ a < 2147483648 ∧ -2147483648 ≤ b ∧ b < 2147483648) : jmin (J a) (J b) = J (min a b) := by
  unfold jmin
  simp only [J_lt (a := b) (b := a) ⟨h.2.2.1, h.2.2.2, h.1, h.2.1⟩]
  split
  · congr 1; omega
  · congr 1; omega
/-! the heap as a layer of a fixed shape upon any other -/
/-- numbers (tag, length); references (class, length, offsets); object (class, slots: 0 int, 1 long, 2 null, o+3 the offset o) -/
abbrev Sh : Type := (Nat × Nat) ⊕ ((Nat × Nat × (Nat → Nat)) ⊕ (Nat × (Nat → Nat)))
def ent (z : Nat) (w : Int64) (s : Nat → Int) : Sh → XE
  | .inl (t, n) => xnum t n (fun i => J (s i))
  | .inr (.inl (c, n, f)) => xref c n (fun i => if i < n then some (z + f i) else none)
  | .inr (.inr (d, F)) => xobj d (fun x => match F x with
    | 0 => .int (J (s x))
    | 1 => .long w
    | 2 => .null
    | o + 3 => .ref (z + o))
def hp (z : Nat) (T : Nat → Option Sh) (g : XH) (w : Int64) (s : Nat → Nat → Int) : XH := (g.1, fun a => match (if z ≤ a then T (a - z) else none) with
  | some sh => some (ent z w (s (a - z)) sh)
  | none => g.2 a)
def up (s : Nat → Nat → Int) (o i : Nat) (v : Int) : Nat → Nat → Int := fun b j => if b = o ∧ j = i then v else s b j
section HP
variable {z : Nat} {T : Nat → Option Sh} {g : XH} {w : Int64} {s : Nat → Nat → Int} {o n d x c r : Nat} {i v : Int} {F : Nat → Nat} {f : Nat → Nat}
theorem hp_at {sh : Sh} (hT : T o = some sh) : (hp z T g w s).2 (z + o) = some (ent z w (s o) sh) := by
  show (match (if z ≤ z + o then T (z + o - z) else none) with
    | some sh => some (ent z w (s (z + o - z)) sh)
    | none => g.2 (z + o)) = _
  rw [if_pos (Nat.le_add_right z o), Nat.add_sub_cancel_left, hT]
theorem hp_st : (hp z T g w s).1 = g.1 := rfl
theorem hp_set {sh : Sh} {w' : Int64} {s' : Nat → Nat → Int} (hT : T o = some sh) (hs : ∀ b, b ≠ o → s' b = s b) (hw : ∀ b sh', b ≠ o → T b = some sh' → ent z w' (s b) sh' = ent z w (s b) sh') : xhs (hp z T g w s) (z + o) (ent z w' (s' o) sh) = hp z T g w' s' := by
  refine Prod.ext rfl (funext fun a => ?_)
  show (if a = z + o then some (ent z w' (s' o) sh) else (hp z T g w s).2 a) = (hp z T g w' s').2 a
  by_cases h : a = z + o
  · rw [if_pos h, h, hp_at hT]
  · rw [if_neg h]
    show (match (if z ≤ a then T (a - z) else none) with
      | some sh => some (ent z w (s (a - z)) sh)
      | none => g.2 a) = (match (if z ≤ a then T (a - z) else none) with
      | some sh => some (ent z w' (s' (a - z)) sh)
      | none => g.2 a)
    by_cases hz : z ≤ a
    · have hne : a - z ≠ o := by omega
      rw [if_pos hz, hs _ hne]
      cases hq : T (a - z) with
      | none => rfl
      | some sh' => exact congrArg some (hw _ _ hne hq).symm
    · rw [if_neg hz]
theorem up_ne {b : Nat} (h : b ≠ o) : up s o x v b = s b := funext fun j => if_neg fun e => h e.1
theorem up_same {j : Nat} : up s o x v o j = if j = x then v else s o j := by
  unfold up
  simp
theorem rdI_hp {k : Int32 → XR} (hT : T o = some (.inl (0, n))) (h0 : 0 ≤ i) (h1 : i < n) (hn : n ≤ 100000) : rdI (hp z T g w s) (z + o) (J i) k = k (J (s o i.toNat)) := by
  have h3 : (J i).toNatClampNeg = i.toNat := J_nat h0 (by omega)
  have h4 : (0 : Int32) ≤ J i := (J_le (a := 0) ⟨by omega, by omega, by omega, by omega⟩).mpr h0
  unfold rdI vdI
  rw [hp_at hT]
  show ob (if (0 : Nat) = 0 ∧ 0 ≤ J i ∧ (J i).toNatClampNeg < n then some (J (s o (J i).toNatClampNeg)) else none) k = _
  rw [if_pos ⟨rfl, h4, by rw [h3]; omega⟩, h3]
  rfl
theorem rdB_hp {t : Nat} {k : Int32 → XR} (hT : T o = some (.inl (t, n))) (ht : t = 1 ∨ t = 2) (h0 : 0 ≤ i) (h1 : i < n) (hn : n ≤ 100000) : rdB (hp z T g w s) (z + o) (J i) k = k (J (s o i.toNat)) := by
  have h3 : (J i).toNatClampNeg = i.toNat := J_nat h0 (by omega)
  have h4 : (0 : Int32) ≤ J i := (J_le (a := 0) ⟨by omega, by omega, by omega, by omega⟩).mpr h0
  unfold rdB vdB
  rw [hp_at hT]
  show ob (if (t = 1 ∨ t = 2) ∧ 0 ≤ J i ∧ (J i).toNatClampNeg < n then some (J (s o (J i).toNatClampNeg)) else none) k = _
  rw [if_pos ⟨ht, h4, by rw [h3]; omega⟩, h3]
  rfl
theorem wrI_hp {k : XH → XR} (hT : T o = some (.inl (0, n))) (h0 : 0 ≤ i) (h1 : i < n) (hn : n ≤ 100000) : wrI (hp z T g w s) (z + o) (J i) (J v) k = k (hp z T g w (up s o i.toNat v)) := by
  have h3 : (J i).toNatClampNeg = i.toNat := J_nat h0 (by omega)
  have h4 : (0 : Int32) ≤ J i := (J_le (a := 0) ⟨by omega, by omega, by omega, by omega⟩).mpr h0
  unfold wrI
  rw [hp_at hT]
  show (if (0 : Nat) = 0 ∧ 0 ≤ J i ∧ (J i).toNatClampNeg < n then k (xhs (hp z T g w s) (z + o) (xnum 0 n (upd (fun i => J (s o i)) (J i).toNatClampNeg (J v)))) else none) = _
  rw [if_pos ⟨rfl, h4, by rw [h3]; omega⟩, h3]
  have h5 : xnum 0 n (upd (fun i => J (s o i)) i.toNat (J v)) = ent z w (up s o i.toNat v o) (.inl (0, n)) := by
    show xnum 0 n _ = xnum 0 n _
    congr 1
    funext j
    show upd (fun i => J (s o i)) i.toNat (J v) j = J (up s o i.toNat v o j)
    rw [up_same]
    unfold upd
    split <;> rfl
  rw [h5, hp_set hT (fun b hb => up_ne hb) (fun _ _ _ _ => rfl)]
theorem gI_hp {k : Int32 → XR} (hT : T o = some (.inr (.inr (d, F)))) (hF : F x = 0) : gI (hp z T g w s) (z + o) d x k = k (J (s o x)) := by
  unfold gI vI vO
  rw [hp_at hT]
  show ob (match (if d = d then some (fun x => match F x with
    | 0 => Value.int (J (s o x))
    | 1 => .long w
    | 2 => .null
    | o + 3 => .ref (z + o)) else none) with
    | some F => (match F x with
      | .int v => some v
      | _ => none)
    | none => none) k = _
  rw [if_pos rfl]
  show ob (match (match F x with
    | 0 => Value.int (J (s o x))
    | 1 => .long w
    | 2 => .null
    | o + 3 => .ref (z + o)) with
      | .int v => some v
      | _ => none) k = _
  rw [hF]
  rfl
theorem gR_hp {k : Nat → XR} (hT : T o = some (.inr (.inr (d, F)))) (hF : F x = r + 3) : gR (hp z T g w s) (z + o) d x k = k (z + r) := by
  unfold gR vR vO
  rw [hp_at hT]
  show ob (match (if d = d then some (fun x => match F x with
    | 0 => Value.int (J (s o x))
    | 1 => .long w
    | 2 => .null
    | o + 3 => .ref (z + o)) else none) with
    | some F => (match F x with
      | .ref v => some v
      | _ => none)
    | none => none) k = _
  rw [if_pos rfl]
  show ob (match (match F x with
    | 0 => Value.int (J (s o x))
    | 1 => .long w
    | 2 => .null
    | o + 3 => .ref (z + o)) with
      | .ref v => some v
      | _ => none) k = _
  rw [hF]
  rfl
theorem gL_hp {k : Int64 → XR} (hT : T o = some (.inr (.inr (d, F)))) (hF : F x = 1) : gL (hp z T g w s) (z + o) d x k = k w := by
  unfold gL vL vO
  rw [hp_at hT]
  show ob (match (if d = d then some (fun x => match F x with
    | 0 => Value.int (J (s o x))
    | 1 => .long w
    | 2 => .null
    | o + 3 => .ref (z + o)) else none) with
    | some F => (match F x with
      | .long v => some v
      | _ => none)
    | none => none) k = _
  rw [if_pos rfl]
  show ob (match (match F x with
    | 0 => Value.int (J (s o x))
    | 1 => .long w
    | 2 => .null
    | o + 3 => .ref (z + o)) with
      | .long v => some v
      | _ => none) k = _
  rw [hF]
  rfl
theorem isO_hp {k : XR} (hT : T o = some (.inr (.inr (d, F)))) : isO (hp z T g w s) (z + o) d k = k := by
  unfold isO vO
  rw [hp_at hT]
  show ob (if d = d then some _ else none) (fun _ => k) = k
  rw [if_pos rfl]
  rfl
theorem pV_hp {k : XH → XR} (hT : T o = some (.inr (.inr (d, F)))) (hF : F x = 0) : pV (hp z T g w s) (z + o) d x (.int (J v)) k = k (hp z T g w (up s o x v)) := by
  unfold pV
  rw [hp_at hT]
  show (if d = d then k (xhs (hp z T g w s) (z + o) (xobj d (updV (fun x => match F x with
    | 0 => Value.int (J (s o x))
    | 1 => .long w
    | 2 => .null
    | o + 3 => .ref (z + o)) x (.int (J v))))) else none) = _
  rw [if_pos rfl]
  have h5 : xobj d (updV (fun x => match F x with
    | 0 => Value.int (J (s o x))
    | 1 => .long w
    | 2 => .null
    | o + 3 => .ref (z + o)) x (.int (J v))) = ent z w (up s o x v o) (.inr (.inr (d, F))) := by
    show xobj d _ = xobj d _
    congr 1
    funext j
    rw [up_same]
    unfold updV
    by_cases hj : j = x
    · subst hj
      simp [hF]
    · simp [hj]
  rw [h5, hp_set hT (fun b hb => up_ne hb) (fun _ _ _ _ => rfl)]
theorem rdR_hp {k : Nat → XR} (hT : T o = some (.inr (.inl (c, n, f)))) (h0 : 0 ≤ i) (h1 : i < n) (hn : n ≤ 100000) : rdR (hp z T g w s) (z + o) (J i) k = k (z + f i.toNat) := by
  have h3 : (J i).toNatClampNeg = i.toNat := J_nat h0 (by omega)
  have h4 : (0 : Int32) ≤ J i := (J_le (a := 0) ⟨by omega, by omega, by omega, by omega⟩).mpr h0
  unfold rdR vdR
  rw [hp_at hT]
  show ob (if 0 ≤ J i ∧ (J i).toNatClampNeg < n then (if (J i).toNatClampNeg < n then some (z + f (J i).toNatClampNeg) else none) else none) k = _
  rw [if_pos ⟨h4, by rw [h3]; omega⟩, h3, if_pos (by omega)]
  rfl
theorem lnA_hp {t : Nat} {k : Int32 → XR} (hT : T o = some (.inl (t, n))) : lnA (hp z T g w s) (z + o) k = k (J n) := by
  unfold lnA vlA
  rw [hp_at hT]
  rfl
end HP
