/-! the shapes of both sides -/
def slot (l : List Nat) (e : Nat) : Nat → Nat := fun x => l.getD x e
abbrev oLn (q : Nat) : Sh := .inr (.inr (3, slot [0, 0, 0, 0, q + 4, q + 5] 2))
abbrev oLb (q : Nat) : Sh := .inr (.inr (2, slot [0, q + 4, q + 5] 2))
abbrev oPl (q : Nat) : Sh := .inr (.inr (5, slot [0, 0, 0, 0, q + 4, q + 5] 2))
abbrev aPl (p : Nat) : Sh := .inr (.inl (3, 8, fun i => p + 5 + 3 * i))
abbrev oD : Sh := .inr (.inr (8, slot [4, 6, 8, 9, 38, 67, 68, 69, 303, 311, 313, 0] 0))
abbrev oT (q : Nat) : Sh := .inr (.inr (6, slot [0, q + 4] 2))
abbrev oPs : Sh := .inr (.inr (4, slot [] 0))
abbrev oH : Sh := .inr (.inr (1, slot [0, 0, 70] 2))
abbrev oB : Sh := .inr (.inr (0, slot [0, 0, 304, 305, 306, 307, 308, 309, 310] 2))
abbrev oTv : Sh := .inr (.inr (7, slot [312] 2))
def lnT (q j : Nat) : Option Sh := match j with
  | 0 => some (oLn q)
  | 1 => some (.inl (0, 10))
  | 2 => some (.inl (0, 10))
  | _ => none
def plT (p j : Nat) : Option Sh := match j with
  | 0 => some (oPl p)
  | 1 => some (aPl p)
  | 2 => some (oLb (p + 2))
  | 3 => some (.inl (0, 160))
  | 4 => some (.inl (0, 160))
  | k + 5 => if k < 24 then lnT (p + 5 + 3 * (k / 3)) (k % 3) else none
def TD (o : Nat) : Option Sh :=
  if o < 6 then (match o with
    | 0 => some oD
    | 1 => some (oT 1)
    | 2 => some (.inl (1, 1000))
    | 3 => some (oT 3)
    | 4 => some (.inl (1, 1000))
    | _ => some oPs)
  else if o < 35 then plT 6 (o - 6)
  else if o < 64 then plT 35 (o - 35)
  else if o < 68 then (match o - 64 with
    | 0 => some (.inr (.inl (5, 2, fun i => 313 + 29 * i)))
    | 1 => some (.inl (2, 2))
    | 2 => some oH
    | _ => some (.inr (.inl (5, 8, fun i => 68 + 29 * i))))
  else if o < 300 then plT (68 + 29 * ((o - 68) / 29)) ((o - 68) % 29)
  else if o < 310 then (match o - 300 with
    | 0 => some oB
    | 7 => some (.inl (0, 160))
    | 8 => some oTv
    | 9 => some (.inl (0, 160))
    | _ => some (.inl (0, 1600)))
  else if o < 313 then lnT 310 (o - 310)
  else if o < 371 then plT (313 + 29 * ((o - 313) / 29)) ((o - 313) % 29)
  else none
def isLn (T : Nat → Option Sh) (q : Nat) : Prop := T q = some (oLn q) ∧ T (q + 1) = some (.inl (0, 10)) ∧ T (q + 2) = some (.inl (0, 10))
def isLb (T : Nat → Option Sh) (q : Nat) : Prop := T q = some (oLb q) ∧ T (q + 1) = some (.inl (0, 160)) ∧ T (q + 2) = some (.inl (0, 160))
def isPl (T : Nat → Option Sh) (p : Nat) : Prop := T p = some (oPl p) ∧ T (p + 1) = some (aPl p) ∧ isLb T (p + 2) ∧ ∀ i, i < 8 → isLn T (p + 5 + 3 * i)
theorem lt8 {i : Nat} (h : i < 8) : i = 0 ∨ i = 1 ∨ i = 2 ∨ i = 3 ∨ i = 4 ∨ i = 5 ∨ i = 6 ∨ i = 7 := by omega
theorem isPl_6 : isPl TD 6 := ⟨rfl, rfl, ⟨rfl, rfl, rfl⟩, fun i hi => by
  rcases lt8 hi with rfl | rfl | rfl | rfl | rfl | rfl | rfl | rfl <;> exact ⟨rfl, rfl, rfl⟩⟩
theorem isPl_35 : isPl TD 35 := ⟨rfl, rfl, ⟨rfl, rfl, rfl⟩, fun i hi => by
  rcases lt8 hi with rfl | rfl | rfl | rfl | rfl | rfl | rfl | rfl <;> exact ⟨rfl, rfl, rfl⟩⟩
theorem isPl_313 : isPl TD 313 := ⟨rfl, rfl, ⟨rfl, rfl, rfl⟩, fun i hi => by
  rcases lt8 hi with rfl | rfl | rfl | rfl | rfl | rfl | rfl | rfl <;> exact ⟨rfl, rfl, rfl⟩⟩
theorem isPl_342 : isPl TD 342 := ⟨rfl, rfl, ⟨rfl, rfl, rfl⟩, fun i hi => by
  rcases lt8 hi with rfl | rfl | rfl | rfl | rfl | rfl | rfl | rfl <;> exact ⟨rfl, rfl, rfl⟩⟩
theorem isPl_H {j : Nat} (hj : j < 8) : isPl TD (68 + 29 * j) := by
  rcases lt8 hj with rfl | rfl | rfl | rfl | rfl | rfl | rfl | rfl <;> exact ⟨rfl, rfl, ⟨rfl, rfl, rfl⟩, fun i hi => by
    rcases lt8 hi with rfl | rfl | rfl | rfl | rfl | rfl | rfl | rfl <;> exact ⟨rfl, rfl, rfl⟩⟩
theorem isPl_S {j : Nat} (hj : j < 2) : isPl TD (313 + 29 * j) := by
  rcases (show j = 0 ∨ j = 1 by omega) with rfl | rfl
  · exact isPl_313
  · exact isPl_342
theorem isLn_310 : isLn TD 310 := ⟨rfl, rfl, rfl⟩
/-- the model's shape, over the address of its object -/
def TM (o : Nat) : Option Sh := match o with
  | 0 => some (.inr (.inr (9, slot [4, 0, 0, 0, 0, 0, 0, 5, 6, 7, 8, 9, 10, 0, 11, 12, 13, 14, 15, 16, 17, 18, 0, 0, 0, 0, 1, 0, 0, 0, 0, 0, 0, 0, 0, 0, 19, 20, 21, 22] 0)))
  | 1 => some (.inl (1, 1000))
  | 2 => some (.inl (0, 8))
  | 3 => some (.inl (0, 1784))
  | 4 => some (.inl (0, 1784))
  | 5 => some (.inl (0, 14272))
  | 6 => some (.inl (0, 3568))
  | 7 => some (.inl (2, 2))
  | 8 => some (.inl (0, 8))
  | 9 => some (.inl (0, 3200))
  | 10 => some (.inl (0, 1600))
  | 11 => some (.inl (0, 6400))
  | 12 => some (.inl (0, 1600))
  | 13 => some (.inl (0, 1600))
  | 14 => some (.inl (0, 1600))
  | 15 => some (.inl (0, 1600))
  | 16 => some (.inl (0, 8))
  | 17 => some (.inl (0, 184))
  | 18 => some (.inl (0, 1600))
  | 19 => some (.inl (0, 1600))
  | _ => none
