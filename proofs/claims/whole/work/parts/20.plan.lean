/-! lines and plans are copied -/
section CP
variable {z : Nat} {T : Nat → Option Sh} {g : XH} {w : Int64} {s : Nat → Nat → Int} {n : Nat}
/-- an array's first m entries from another -/
def cpy (s : Nat → Nat → Int) (o d m : Nat) : Nat → Nat → Int := fun b j => if b = d ∧ j < m then s o j else s b j
theorem cpI_hp {o d m n1 n2 : Nat} {k : XH → XR} (hT : T o = some (.inl (0, n1))) (hD : T d = some (.inl (0, n2))) (hne : o ≠ d) (h1 : m ≤ n1) (h2 : m ≤ n2) (hn : m ≤ 100000) : cpI (hp z T g w s) (z + o) (J 0) (z + d) (J 0) (J m) k = k (hp z T g w (cpy s o d m)) := by
  have e0 : (J 0).toNatClampNeg = 0 := rfl
  have e1 : (J m).toNatClampNeg = m := by rw [J_nat (by omega) (by omega)]; omega
  have e2 : (0 : Int32) ≤ J m := (J_le (a := 0) ⟨by omega, by omega, by omega, by omega⟩).mpr (by omega)
  unfold cpI
  rw [hp_at hT, hp_at hD]
  show (if ((0 : Nat) = 0 ∧ (0 : Nat) = 0 ∧ z + o ≠ z + d) ∧ (0 ≤ J 0 ∧ 0 ≤ J 0 ∧ 0 ≤ J m) ∧ (J 0).toNatClampNeg + (J m).toNatClampNeg ≤ n1 ∧ (J 0).toNatClampNeg + (J m).toNatClampNeg ≤ n2 then k (xhs (hp z T g w s) (z + d) (xnum 0 n2 (va_cpy (fun i => J (s o i)) (fun i => J (s d i)) (J 0).toNatClampNeg (J 0).toNatClampNeg (J m).toNatClampNeg))) else none) = _
  rw [if_pos ⟨⟨rfl, rfl, by omega⟩, ⟨by decide, by decide, e2⟩, by rw [e0, e1]; omega, by rw [e0, e1]; omega⟩]
  have h5 : xnum 0 n2 (va_cpy (fun i => J (s o i)) (fun i => J (s d i)) (J 0).toNatClampNeg (J 0).toNatClampNeg (J m).toNatClampNeg) = ent z w (cpy s o d m d) (.inl (0, n2)) := by
    show xnum 0 n2 _ = xnum 0 n2 _
    congr 1
    funext j
    rw [e0, e1]
    unfold va_cpy cpy
    by_cases hj : j < m
    · simp [hj]
    · simp [hj]
  rw [h5, hp_set (s' := cpy s o d m) hD (fun b hb => funext fun j => if_neg fun e => hb e.1) (fun _ _ _ _ => rfl)]
/-- a line's contents from another's -/
def cpLn (s : Nat → Nat → Int) (a b : Nat) : Nat → Nat → Int := cpy (cpy (up (up (up (up s a 0 (s b 0)) a 1 (s b 1)) a 2 (s b 2)) a 3 (s b 3)) (b + 1) (a + 1) 10) (b + 2) (a + 2) 10
theorem qLn_copyFrom_hp {a b : Nat} (ha : isLn T a) (hb : isLn T b) (hab : a + 2 < b ∨ b + 2 < a) : qLn_copyFrom (z + a) (z + b) (hp z T g w s) = rV (hp z T g w (cpLn s a b)) := by
  obtain ⟨a0, a1, a2⟩ := ha
  obtain ⟨b0, b1, b2⟩ := hb
  have hne : b ≠ a := by omega
  unfold qLn_copyFrom
  rw [gI_hp b0 rfl, pV_hp a0 rfl, gI_hp b0 rfl, pV_hp a0 rfl, gI_hp b0 rfl, pV_hp a0 rfl, gI_hp b0 rfl, pV_hp a0 rfl, gR_hp b0 (r := b + 1) rfl, gR_hp a0 (r := a + 1) rfl, show (0 : Int32) = J 0 from rfl, show (10 : Int32) = J (10 : Nat) from rfl, cpI_hp b1 a1 (by omega) (by omega) (by omega) (by omega), gR_hp b0 (r := b + 2) rfl, gR_hp a0 (r := a + 2) rfl, cpI_hp b2 a2 (by omega) (by omega) (by omega) (by omega)]
  simp only [up_ne hne]
  rfl
end CP
