/-! the model's ways -/
def wayM (a b : Int) : Int := if wayI a b < 0 then -2 else wayI a b
theorem sgn_of (v : Int) : (v = 0 ∧ sgn v = 0) ∨ (v < 0 ∧ sgn v = -1) ∨ (0 < v ∧ sgn v = 1) := by
  unfold sgn
  by_cases h : v = 0
  · exact Or.inl ⟨h, if_pos h⟩
  · rw [if_neg h]
    by_cases h2 : v < 0
    · exact Or.inr (Or.inl ⟨h2, if_pos h2⟩)
    · exact Or.inr (Or.inr ⟨by omega, if_neg h2⟩)
/-- the way of a run is the first that goes as the run's signs go -/
theorem wayI_first {a b : Int} (h0 : ¬(a = 0 ∧ b = 0)) (h : ¬(a ≠ 0 ∧ b ≠ 0 ∧ a.natAbs ≠ b.natAbs)) : ∃ k : Nat, k < 8 ∧ wayI a b = k ∧ dxI k = sgn a ∧ dyI k = sgn b ∧ ∀ j : Nat, j < k → ¬(dxI j = sgn a ∧ dyI j = sgn b) := by
  unfold wayI
  rw [if_neg h]
  rcases sgn_of a with ⟨ha, ea⟩ | ⟨ha, ea⟩ | ⟨ha, ea⟩ <;> rcases sgn_of b with ⟨hb, eb⟩ | ⟨hb, eb⟩ | ⟨hb, eb⟩ <;> rw [ea, eb]
  · exact absurd ⟨ha, hb⟩ h0
  · exact ⟨6, by decide, rfl, rfl, rfl, by decide⟩
  · exact ⟨2, by decide, rfl, rfl, rfl, by decide⟩
  · exact ⟨4, by decide, rfl, rfl, rfl, by decide⟩
  · exact ⟨5, by decide, rfl, rfl, rfl, by decide⟩
  · exact ⟨3, by decide, rfl, rfl, rfl, by decide⟩
  · exact ⟨0, by decide, rfl, rfl, rfl, by decide⟩
  · exact ⟨7, by decide, rfl, rfl, rfl, by decide⟩
  · exact ⟨1, by decide, rfl, rfl, rfl, by decide⟩
