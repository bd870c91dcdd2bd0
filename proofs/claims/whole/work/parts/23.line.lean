/-! ways -/
def sgn (v : Int) : Int := if v = 0 then 0 else if v < 0 then -1 else 1
def wayL (j : Nat) : Int := ([5, 6, 7, 4, -1, 0, 3, 2, 1] : List Int).getD j 0
/-- the way of a run by what it goes across and down, -1 for none -/
def wayI (a b : Int) : Int := if a ≠ 0 ∧ b ≠ 0 ∧ a.natAbs ≠ b.natAbs then -1 else wayL (3 * (sgn b + 1) + sgn a + 1).toNat
theorem sgn_in (v : Int) : -1 ≤ sgn v ∧ sgn v ≤ 1 := by
  unfold sgn
  split
  · omega
  · split <;> omega
theorem wayF_J {j : Nat} (h : j < 9) : wayF j = J (wayL j) := by
  have h' : j = 0 ∨ j = 1 ∨ j = 2 ∨ j = 3 ∨ j = 4 ∨ j = 5 ∨ j = 6 ∨ j = 7 ∨ j = 8 := by omega
  rcases h' with rfl | rfl | rfl | rfl | rfl | rfl | rfl | rfl | rfl <;> rfl
section WY
variable {z : Nat} {T : Nat → Option Sh} {g : XH} {w : Int64} {s : Nat → Nat → Int}
theorem qLn_signOf_hp {v : Int} {h : XH} (hv : ok32 v) : qLn_signOf (J v) h = rI (J (sgn v)) h := by
  unfold qLn_signOf sgn
  simp only [show (0 : Int32) = J 0 from rfl, J_eq (a := v) (b := 0) ⟨hv.1, hv.2, by omega, by omega⟩, J_lt (a := v) (b := 0) ⟨hv.1, hv.2, by omega, by omega⟩]
  split
  · rfl
  · split <;> rfl
end WY
