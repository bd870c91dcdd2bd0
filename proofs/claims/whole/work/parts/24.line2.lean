/-! how long lines are -/
section LN
variable {z : Nat} {T : Nat → Option Sh} {g : XH} {w : Int64} {s : Nat → Nat → Int}
def lenA (s : Nat → Nat → Int) (a : Nat) : Nat → Int
  | 0 => 0
  | r + 1 => lenA s a r + stpA s a r
theorem stpA_in {a r : Nat} (hi : lnIn s a) (h : r + 1 < 10) : 0 ≤ stpA s a r ∧ stpA s a r ≤ 39 := by
  have b1 := hi r (by omega)
  have b2 := hi (r + 1) (by omega)
  unfold stpA
  omega
theorem lenA_in {a : Nat} (hi : lnIn s a) : ∀ r : Nat, r < 10 → 0 ≤ lenA s a r ∧ lenA s a r ≤ 39 * r
  | 0, _ => by show (0 : Int) ≤ 0 ∧ (0 : Int) ≤ 39 * 0; omega
  | r + 1, h => by
    have h1 := lenA_in hi r (by omega)
    have h2 := stpA_in hi h
    show 0 ≤ lenA s a r + stpA s a r ∧ lenA s a r + stpA s a r ≤ 39 * ((r + 1 : Nat) : Int)
    omega
theorem qLn_steps_hp {a n : Nat} (ha : isLn T a) (hp_ : s a 1 = n) (hn : 1 ≤ n ∧ n ≤ 10) (hi : lnIn s a) : qLn_steps (z + a) (hp z T g w s) = rI (J (lenA s a (n - 1))) (hp z T g w s) := by
  have key := loopM (S := Nat) (fun k r => qLn_steps_4 k (z + a) (J (lenA s a r)) (J r) (hp z T g w s)) (fun X => X = rI (J (lenA s a (n - 1))) (hp z T g w s)) (fun r => r ≤ n - 1) (fun r => n - 1 - r) (fun k r hr ih => by
    show qLn_steps_4_b (qLn_steps_4 k) (z + a) (J (lenA s a r)) (J r) (hp z T g w s) = _
    unfold qLn_steps_4_b
    rw [gI_hp ha.1 rfl, hp_]
    simp only [show (1 : Int32) = J 1 from rfl, J_sub, J_lt (a := (r : Int)) (b := (n : Int) - 1) ⟨by omega, by omega, by omega, by omega⟩]
    by_cases h : r < n - 1
    · rw [if_pos (by omega), isO_hp ha.1, qLn_stepsOfRun_hp ha hp_ (by omega) (by omega) (by omega) hi]
      have h1 := ih (r + 1) (by omega) (by omega)
      show qLn_steps_4 k (z + a) (J (lenA s a r) + J (stpA s a r)) (J r + J 1) (hp z T g w s) = _
      rw [J_add, J_add]
      exact h1
    · rw [if_neg (by omega)]
      have e : r = n - 1 := by omega
      rw [e])
  exact key LF 0 (by omega) (by show n - 1 - 0 < 20000; omega)
end LN
