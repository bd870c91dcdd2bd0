/-! quotients of small numbers -/
section DQ
theorem fq_ok : ∀ a : Fin 352, ∀ b : Fin 19, FP.fdiv (FP.i2f (J (a.1 : Nat))) (FP.i2f (J ((b.1 + 1 : Nat)))) &&& 0x7fffffff ≤ 0x7f800000 ∧ FP.f2d (FP.fdiv (FP.i2f (J (a.1 : Nat))) (FP.i2f (J ((b.1 + 1 : Nat))))) &&& 0x7fffffffffffffff ≤ 0x7ff0000000000000 ∧ Op.cmpValue (FP.dcmp (FP.f2d (FP.fdiv (FP.i2f (J (a.1 : Nat))) (FP.i2f (J ((b.1 + 1 : Nat)))))) (FP.f2d (FP.fdiv (FP.i2f (J (a.1 : Nat))) (FP.i2f (J ((b.1 + 1 : Nat))))))) .l = (0 : Int32) := by decide +kernel
theorem dq_0 : ∀ b : Fin 20, ∀ a : Fin 161, a.1 ≤ b.1 + 1 → FP.ddiv (FP.i2d (J (a.1 : Nat))) (FP.i2d (J ((b.1 + 1 : Nat)))) &&& 0x7fffffffffffffff ≤ 0x7ff0000000000000 ∧ Op.cmpValue (FP.dcmp (FP.ddiv (FP.i2d (J (a.1 : Nat))) (FP.i2d (J ((b.1 + 1 : Nat))))) (FP.ddiv (FP.i2d (J (a.1 : Nat))) (FP.i2d (J ((b.1 + 1 : Nat)))))) .l = (0 : Int32) := by decide +kernel
theorem dq_1 : ∀ b : Fin 20, ∀ a : Fin 161, a.1 ≤ b.1 + 21 → FP.ddiv (FP.i2d (J (a.1 : Nat))) (FP.i2d (J ((b.1 + 21 : Nat)))) &&& 0x7fffffffffffffff ≤ 0x7ff0000000000000 ∧ Op.cmpValue (FP.dcmp (FP.ddiv (FP.i2d (J (a.1 : Nat))) (FP.i2d (J ((b.1 + 21 : Nat))))) (FP.ddiv (FP.i2d (J (a.1 : Nat))) (FP.i2d (J ((b.1 + 21 : Nat)))))) .l = (0 : Int32) := by decide +kernel
theorem dq_2 : ∀ b : Fin 20, ∀ a : Fin 161, a.1 ≤ b.1 + 41 → FP.ddiv (FP.i2d (J (a.1 : Nat))) (FP.i2d (J ((b.1 + 41 : Nat)))) &&& 0x7fffffffffffffff ≤ 0x7ff0000000000000 ∧ Op.cmpValue (FP.dcmp (FP.ddiv (FP.i2d (J (a.1 : Nat))) (FP.i2d (J ((b.1 + 41 : Nat))))) (FP.ddiv (FP.i2d (J (a.1 : Nat))) (FP.i2d (J ((b.1 + 41 : Nat)))))) .l = (0 : Int32) := by decide +kernel
theorem dq_3 : ∀ b : Fin 20, ∀ a : Fin 161, a.1 ≤ b.1 + 61 → FP.ddiv (FP.i2d (J (a.1 : Nat))) (FP.i2d (J ((b.1 + 61 : Nat)))) &&& 0x7fffffffffffffff ≤ 0x7ff0000000000000 ∧ Op.cmpValue (FP.dcmp (FP.ddiv (FP.i2d (J (a.1 : Nat))) (FP.i2d (J ((b.1 + 61 : Nat))))) (FP.ddiv (FP.i2d (J (a.1 : Nat))) (FP.i2d (J ((b.1 + 61 : Nat)))))) .l = (0 : Int32) := by decide +kernel
theorem dq_4 : ∀ b : Fin 20, ∀ a : Fin 161, a.1 ≤ b.1 + 81 → FP.ddiv (FP.i2d (J (a.1 : Nat))) (FP.i2d (J ((b.1 + 81 : Nat)))) &&& 0x7fffffffffffffff ≤ 0x7ff0000000000000 ∧ Op.cmpValue (FP.dcmp (FP.ddiv (FP.i2d (J (a.1 : Nat))) (FP.i2d (J ((b.1 + 81 : Nat))))) (FP.ddiv (FP.i2d (J (a.1 : Nat))) (FP.i2d (J ((b.1 + 81 : Nat)))))) .l = (0 : Int32) := by decide +kernel
theorem dq_5 : ∀ b : Fin 20, ∀ a : Fin 161, a.1 ≤ b.1 + 101 → FP.ddiv (FP.i2d (J (a.1 : Nat))) (FP.i2d (J ((b.1 + 101 : Nat)))) &&& 0x7fffffffffffffff ≤ 0x7ff0000000000000 ∧ Op.cmpValue (FP.dcmp (FP.ddiv (FP.i2d (J (a.1 : Nat))) (FP.i2d (J ((b.1 + 101 : Nat))))) (FP.ddiv (FP.i2d (J (a.1 : Nat))) (FP.i2d (J ((b.1 + 101 : Nat)))))) .l = (0 : Int32) := by decide +kernel
theorem dq_6 : ∀ b : Fin 20, ∀ a : Fin 161, a.1 ≤ b.1 + 121 → FP.ddiv (FP.i2d (J (a.1 : Nat))) (FP.i2d (J ((b.1 + 121 : Nat)))) &&& 0x7fffffffffffffff ≤ 0x7ff0000000000000 ∧ Op.cmpValue (FP.dcmp (FP.ddiv (FP.i2d (J (a.1 : Nat))) (FP.i2d (J ((b.1 + 121 : Nat))))) (FP.ddiv (FP.i2d (J (a.1 : Nat))) (FP.i2d (J ((b.1 + 121 : Nat)))))) .l = (0 : Int32) := by decide +kernel
theorem dq_7 : ∀ b : Fin 20, ∀ a : Fin 161, a.1 ≤ b.1 + 141 → FP.ddiv (FP.i2d (J (a.1 : Nat))) (FP.i2d (J ((b.1 + 141 : Nat)))) &&& 0x7fffffffffffffff ≤ 0x7ff0000000000000 ∧ Op.cmpValue (FP.dcmp (FP.ddiv (FP.i2d (J (a.1 : Nat))) (FP.i2d (J ((b.1 + 141 : Nat))))) (FP.ddiv (FP.i2d (J (a.1 : Nat))) (FP.i2d (J ((b.1 + 141 : Nat)))))) .l = (0 : Int32) := by decide +kernel
theorem dq_ok {i j : Int} (hi0 : 0 ≤ i ∧ i ≤ j) (hj : 1 ≤ j ∧ j ≤ 160) : FP.ddiv (FP.i2d (J i)) (FP.i2d (J j)) &&& 0x7fffffffffffffff ≤ 0x7ff0000000000000 ∧ Op.cmpValue (FP.dcmp (FP.ddiv (FP.i2d (J i)) (FP.i2d (J j))) (FP.ddiv (FP.i2d (J i)) (FP.i2d (J j)))) .l = (0 : Int32) := by
  have e1 : ((i.toNat : Nat) : Int) = i := by omega
  by_cases h0 : j ≤ 20
  · have := dq_0 ⟨(j - 1).toNat, by omega⟩ ⟨i.toNat, by omega⟩ (by show i.toNat ≤ (j - 1).toNat + 1; omega)
    rw [e1, show (((j - 1).toNat + 1 : Nat) : Int) = j by omega] at this
    exact this
  by_cases h1 : j ≤ 40
  · have := dq_1 ⟨(j - 21).toNat, by omega⟩ ⟨i.toNat, by omega⟩ (by show i.toNat ≤ (j - 21).toNat + 21; omega)
    rw [e1, show (((j - 21).toNat + 21 : Nat) : Int) = j by omega] at this
    exact this
  by_cases h2 : j ≤ 60
  · have := dq_2 ⟨(j - 41).toNat, by omega⟩ ⟨i.toNat, by omega⟩ (by show i.toNat ≤ (j - 41).toNat + 41; omega)
    rw [e1, show (((j - 41).toNat + 41 : Nat) : Int) = j by omega] at this
    exact this
  by_cases h3 : j ≤ 80
  · have := dq_3 ⟨(j - 61).toNat, by omega⟩ ⟨i.toNat, by omega⟩ (by show i.toNat ≤ (j - 61).toNat + 61; omega)
    rw [e1, show (((j - 61).toNat + 61 : Nat) : Int) = j by omega] at this
    exact this
  by_cases h4 : j ≤ 100
  · have := dq_4 ⟨(j - 81).toNat, by omega⟩ ⟨i.toNat, by omega⟩ (by show i.toNat ≤ (j - 81).toNat + 81; omega)
    rw [e1, show (((j - 81).toNat + 81 : Nat) : Int) = j by omega] at this
    exact this
  by_cases h5 : j ≤ 120
  · have := dq_5 ⟨(j - 101).toNat, by omega⟩ ⟨i.toNat, by omega⟩ (by show i.toNat ≤ (j - 101).toNat + 101; omega)
    rw [e1, show (((j - 101).toNat + 101 : Nat) : Int) = j by omega] at this
    exact this
  by_cases h6 : j ≤ 140
  · have := dq_6 ⟨(j - 121).toNat, by omega⟩ ⟨i.toNat, by omega⟩ (by show i.toNat ≤ (j - 121).toNat + 121; omega)
    rw [e1, show (((j - 121).toNat + 121 : Nat) : Int) = j by omega] at this
    exact this
  by_cases h7 : j ≤ 160
  · have := dq_7 ⟨(j - 141).toNat, by omega⟩ ⟨i.toNat, by omega⟩ (by show i.toNat ≤ (j - 141).toNat + 141; omega)
    rw [e1, show (((j - 141).toNat + 141 : Nat) : Int) = j by omega] at this
    exact this
  omega
end DQ
