/-! the model's small functions -/
section MW
variable {h : XH}
def dxI (v : Int) : Int := if v = 2 ∨ v = 6 then 0 else if 2 < v ∧ v < 6 then -1 else 1
def dyI (v : Int) : Int := if v = 0 ∨ v = 4 then 0 else if v < 4 then 1 else -1
theorem qM_size_hp {v : Int} (hv : -2147483648 < v ∧ v < 2147483648) : qM_size (J v) h = rI (J v.natAbs) h := by
  unfold qM_size
  simp only [show (0 : Int32) = J 0 from rfl, J_lt (a := v) (b := 0) ⟨by omega, by omega, by omega, by omega⟩, J_neg]
  split
  · congr 3; omega
  · congr 3; omega
theorem qM_sign_hp {v : Int} (hv : ok32 v) : qM_sign (J v) h = rI (J (sgn v)) h := by
  unfold qM_sign sgn
  simp only [show (0 : Int32) = J 0 from rfl, J_lt (a := v) (b := 0) ⟨hv.1, hv.2, by omega, by omega⟩, J_lt (a := 0) (b := v) ⟨by omega, by omega, hv.1, hv.2⟩]
  by_cases c : v < 0
  · rw [if_pos c, if_neg (by omega), if_pos c]
    rfl
  · by_cases c2 : 0 < v
    · rw [if_neg c, if_pos c2, if_neg (by omega), if_neg c]
      rfl
    · rw [if_neg c, if_neg c2, if_pos (by omega)]
theorem qM_dx_hp {v : Int} (hv : ok32 v) : qM_dx (J v) h = rI (J (dxI v)) h := by
  unfold qM_dx dxI
  simp only [show (2 : Int32) = J 2 from rfl, show (6 : Int32) = J 6 from rfl, J_eq (a := v) (b := 2) ⟨hv.1, hv.2, by omega, by omega⟩, J_eq (a := v) (b := 6) ⟨hv.1, hv.2, by omega, by omega⟩, J_lt (a := 2) (b := v) ⟨by omega, by omega, hv.1, hv.2⟩, J_lt (a := v) (b := 6) ⟨hv.1, hv.2, by omega, by omega⟩]
  by_cases c1 : v = 2
  · rw [if_pos c1, if_pos (Or.inl c1)]
    rfl
  · by_cases c2 : v = 6
    · rw [if_neg c1, if_pos c2, if_pos (Or.inr c2)]
      rfl
    · rw [if_neg c1, if_neg c2, if_neg (show ¬(v = 2 ∨ v = 6) by omega)]
      by_cases c3 : 2 < v
      · by_cases c4 : v < 6
        · rw [if_pos c3, if_pos c4, if_pos ⟨c3, c4⟩]
          rfl
        · rw [if_pos c3, if_neg c4, if_neg (show ¬(2 < v ∧ v < 6) by omega)]
          rfl
      · rw [if_neg c3, if_neg (show ¬(2 < v ∧ v < 6) by omega)]
        rfl
theorem qM_dy_hp {v : Int} (hv : ok32 v) : qM_dy (J v) h = rI (J (dyI v)) h := by
  unfold qM_dy dyI
  simp only [show (0 : Int32) = J 0 from rfl, show (4 : Int32) = J 4 from rfl, J_eq (a := v) (b := 0) ⟨hv.1, hv.2, by omega, by omega⟩, J_eq (a := v) (b := 4) ⟨hv.1, hv.2, by omega, by omega⟩, J_lt (a := v) (b := 4) ⟨hv.1, hv.2, by omega, by omega⟩]
  by_cases c1 : v = 0
  · rw [if_pos c1, if_pos (Or.inl c1)]
  · by_cases c2 : v = 4
    · rw [if_neg c1, if_pos c2, if_pos (Or.inr c2)]
    · rw [if_neg c1, if_neg c2, if_neg (show ¬(v = 0 ∨ v = 4) by omega)]
      split <;> rfl
end MW
