/-! ways -/
def sgn (v : Int) : Int := if v = 0 then 0 else if v < 0 then -1 else 1
def wayL (j : Nat) : Int := ([5, 6, 7, 4, -1, 0, 3, 2, 1] : List Int).getD j 0
/-- the way of a run by what it goes across and down, -1 for none -/
def wayI (a b : Int) : Int := if a ≠ 0 ∧ b ≠ 0 ∧ a.natAbs ≠ b.natAbs then -1 else wayL (3 * (sgn b + 1) + sgn a + 1).toNat
theorem sgn_in (v : Int) : -1 ≤ sgn v ∧ sgn v ≤ 1 := by
  unfold sgn
  split
  · omega
  · split <;> omega
theorem wayF_J {j : Nat} (h : j < 9) : wayF j = J (wayL j) := by
  have h' : j = 0 ∨ j = 1 ∨ j = 2 ∨ j = 3 ∨ j = 4 ∨ j = 5 ∨ j = 6 ∨ j = 7 ∨ j = 8 := by omega
  rcases h' with rfl | rfl | rfl | rfl | rfl | rfl | rfl | rfl | rfl <;> rfl
section WY
variable {z : Nat} {T : Nat → Option Sh} {g : XH} {w : Int64} {s : Nat → Nat → Int}
theorem qLn_signOf_hp {v : Int} {h : XH} (hv : ok32 v) : qLn_signOf (J v) h = rI (J (sgn v)) h := by
  unfold qLn_signOf sgn
  simp only [show (0 : Int32) = J 0 from rfl, J_eq (a := v) (b := 0) ⟨hv.1, hv.2, by omega, by omega⟩, J_lt (a := v) (b := 0) ⟨hv.1, hv.2, by omega, by omega⟩]
  split
  · rfl
  · split <;> rfl
theorem qLn_wayOfRun_69_hp {u v : Int} (hg : GOk g z) (hu : ok32 u) (hv : ok32 v) : qLn_wayOfRun_69 (J u) (J v) (hp z T g w s) = rI (J (wayL (3 * (sgn v + 1) + sgn u + 1).toNat)) (hp z T g w s) := by
  have h1 := sgn_in u
  have h2 := sgn_in v
  unfold qLn_wayOfRun_69
  simp only [qLn_signOf_hp hu, qLn_signOf_hp hv, bI, show (1 : Int32) = J 1 from rfl, show (3 : Int32) = J 3 from rfl, J_add, J_mul]
  rw [way_hp hg (by omega) (by omega), wayF_J (by omega)]
/-- a line's points lie in a square of this side -/
def lnIn (s : Nat → Nat → Int) (a : Nat) : Prop := ∀ p, p < 10 → (0 ≤ s (a + 1) p ∧ s (a + 1) p < 40) ∧ 0 ≤ s (a + 2) p ∧ s (a + 2) p < 40
theorem qLn_wayOfRun_hp {a : Nat} {r n : Int} (hg : GOk g z) (ha : isLn T a) (hp_ : s a 1 = n) (hn : 0 ≤ n ∧ n ≤ 10) (hr : 0 ≤ r) (hr2 : r < n - 1) (hi : lnIn s a) : qLn_wayOfRun (z + a) (J r) (hp z T g w s) = rI (J (wayI (s (a + 1) (r.toNat + 1) - s (a + 1) r.toNat) (s (a + 2) (r.toNat + 1) - s (a + 2) r.toNat))) (hp z T g w s) := by
  obtain ⟨a0, a1, a2⟩ := ha
  have b1 := hi r.toNat (by omega)
  have b2 := hi (r.toNat + 1) (by omega)
  have e1 : (r + 1).toNat = r.toNat + 1 := by omega
  unfold qLn_wayOfRun
  simp only [show (0 : Int32) = J 0 from rfl, show (1 : Int32) = J 1 from rfl]
  rw [gI_hp a0 rfl, hp_, J_sub, J_add]
  simp only [J_lt (a := r) (b := 0) ⟨by omega, by omega, by omega, by omega⟩, J_lt (a := r) (b := n - 1) ⟨by omega, by omega, by omega, by omega⟩]
  rw [if_neg (by omega), if_pos hr2, gR_hp a0 (r := a + 1) rfl, rdI_hp a1 (by omega) (by omega) (by omega), gR_hp a0 (r := a + 1) rfl, rdI_hp a1 (by omega) (by omega) (by omega), gR_hp a0 (r := a + 2) rfl, rdI_hp a2 (by omega) (by omega) (by omega), gR_hp a0 (r := a + 2) rfl, rdI_hp a2 (by omega) (by omega) (by omega), e1]
  generalize s (a + 1) (r.toNat + 1) = x1 at *
  generalize s (a + 1) r.toNat = x0 at *
  generalize s (a + 2) (r.toNat + 1) = y1 at *
  generalize s (a + 2) r.toNat = y0 at *
  rw [J_sub, J_sub, J_abs ⟨by omega, by omega⟩, J_abs ⟨by omega, by omega⟩]
  simp only [J_eq (a := x1 - x0) (b := 0) ⟨by omega, by omega, by omega, by omega⟩, J_eq (a := y1 - y0) (b := 0) ⟨by omega, by omega, by omega, by omega⟩, J_eq (a := ((x1 - x0).natAbs : Int)) (b := ((y1 - y0).natAbs : Int)) ⟨by omega, by omega, by omega, by omega⟩, qLn_wayOfRun_69_hp hg (show ok32 (x1 - x0) from ⟨by omega, by omega⟩) (show ok32 (y1 - y0) from ⟨by omega, by omega⟩)]
  unfold wayI
  by_cases c1 : x1 - x0 = 0
  · rw [if_pos c1, if_neg (by omega)]
  · by_cases c2 : y1 - y0 = 0
    · rw [if_neg c1, if_pos c2, if_neg (by omega)]
    · by_cases c3 : (x1 - x0).natAbs = (y1 - y0).natAbs
      · rw [if_neg c1, if_neg c2, if_pos (by omega), if_neg (by omega)]
      · rw [if_neg c1, if_neg c2, if_neg (by omega), if_pos ⟨c1, c2, c3⟩]
        rfl
/-- a turn between two ways -/
def trn (u v : Int) : Int := min (u - v).natAbs (8 - (u - v).natAbs)
/-- the way of a run of a line's contents at a -/
def wayA (s : Nat → Nat → Int) (a r : Nat) : Int := wayI (s (a + 1) (r + 1) - s (a + 1) r) (s (a + 2) (r + 1) - s (a + 2) r)
theorem wayL_in (j : Nat) : -1 ≤ wayL j ∧ wayL j ≤ 7 := by
  by_cases h : j < 9
  · have h' : j = 0 ∨ j = 1 ∨ j = 2 ∨ j = 3 ∨ j = 4 ∨ j = 5 ∨ j = 6 ∨ j = 7 ∨ j = 8 := by omega
    rcases h' with rfl | rfl | rfl | rfl | rfl | rfl | rfl | rfl | rfl <;> decide
  · have e : wayL j = 0 := by
      unfold wayL
      rw [List.getD_eq_getElem?_getD, List.getElem?_eq_none (by simpa using (by omega : 9 ≤ j))]
      rfl
    omega
theorem wayI_in (u v : Int) : -1 ≤ wayI u v ∧ wayI u v ≤ 7 := by
  unfold wayI
  split
  · omega
  · exact wayL_in _
theorem qLn_turnAt_hp {a : Nat} {r n : Int} (hg : GOk g z) (ha : isLn T a) (hp_ : s a 1 = n) (hn : 0 ≤ n ∧ n ≤ 10) (hr : 1 ≤ r) (hr2 : r < n - 1) (hi : lnIn s a) : qLn_turnAt (z + a) (J r) (hp z T g w s) = rI (J (trn (wayA s a (r - 1).toNat) (wayA s a r.toNat))) (hp z T g w s) := by
  have h1 := wayI_in (s (a + 1) ((r - 1).toNat + 1) - s (a + 1) (r - 1).toNat) (s (a + 2) ((r - 1).toNat + 1) - s (a + 2) (r - 1).toNat)
  have h2 := wayI_in (s (a + 1) (r.toNat + 1) - s (a + 1) r.toNat) (s (a + 2) (r.toNat + 1) - s (a + 2) r.toNat)
  unfold qLn_turnAt
  simp only [show (1 : Int32) = J 1 from rfl, show (8 : Int32) = J 8 from rfl, J_lt (a := r) (b := 1) ⟨by omega, by omega, by omega, by omega⟩]
  rw [if_neg (by omega), gI_hp ha.1 rfl, hp_, J_sub]
  simp only [J_lt (a := r) (b := n - 1) ⟨by omega, by omega, by omega, by omega⟩]
  rw [if_pos hr2, isO_hp ha.1, J_sub, qLn_wayOfRun_hp hg ha hp_ hn (by omega) (by omega) hi]
  show isO (hp z T g w s) (z + a) 3 (bI (qLn_wayOfRun (z + a) (J r) (hp z T g w s)) _) = _
  rw [isO_hp ha.1, qLn_wayOfRun_hp hg ha hp_ hn (by omega) (by omega) hi]
  show rI (jmin (jabs (J (wayA s a (r - 1).toNat) - J (wayA s a r.toNat))) (J 8 - jabs (J (wayA s a (r - 1).toNat) - J (wayA s a r.toNat)))) (hp z T g w s) = _
  have h3 : -1 ≤ wayA s a (r - 1).toNat ∧ wayA s a (r - 1).toNat ≤ 7 := h1
  have h4 : -1 ≤ wayA s a r.toNat ∧ wayA s a r.toNat ≤ 7 := h2
  rw [J_sub, J_abs ⟨by omega, by omega⟩, J_sub, J_min ⟨by omega, by omega, by omega, by omega⟩]
  rfl
/-- the steps of a run of a line's contents at a -/
def stpA (s : Nat → Nat → Int) (a r : Nat) : Int := max (s (a + 1) (r + 1) - s (a + 1) r).natAbs (s (a + 2) (r + 1) - s (a + 2) r).natAbs
theorem qLn_stepsOfRun_hp {a : Nat} {r n : Int} (ha : isLn T a) (hp_ : s a 1 = n) (hn : 0 ≤ n ∧ n ≤ 10) (hr : 0 ≤ r) (hr2 : r < n - 1) (hi : lnIn s a) : qLn_stepsOfRun (z + a) (J r) (hp z T g w s) = rI (J (stpA s a r.toNat)) (hp z T g w s) := by
  obtain ⟨a0, a1, a2⟩ := ha
  have b1 := hi r.toNat (by omega)
  have b2 := hi (r.toNat + 1) (by omega)
  have e1 : (r + 1).toNat = r.toNat + 1 := by omega
  unfold qLn_stepsOfRun stpA
  simp only [show (0 : Int32) = J 0 from rfl, show (1 : Int32) = J 1 from rfl]
  rw [gI_hp a0 rfl, hp_, J_sub, J_add]
  simp only [J_lt (a := r) (b := 0) ⟨by omega, by omega, by omega, by omega⟩, J_lt (a := r) (b := n - 1) ⟨by omega, by omega, by omega, by omega⟩]
  rw [if_neg (by omega), if_pos hr2, gR_hp a0 (r := a + 1) rfl, rdI_hp a1 (by omega) (by omega) (by omega), gR_hp a0 (r := a + 1) rfl, rdI_hp a1 (by omega) (by omega) (by omega), gR_hp a0 (r := a + 2) rfl, rdI_hp a2 (by omega) (by omega) (by omega), gR_hp a0 (r := a + 2) rfl, rdI_hp a2 (by omega) (by omega) (by omega), e1]
  rw [J_sub, J_sub, J_abs ⟨by omega, by omega⟩, J_abs ⟨by omega, by omega⟩, J_max ⟨by omega, by omega, by omega, by omega⟩]
end WY
