/-! more numbers -/
section N2
variable {a b c k l : Int} {P Q : Prop} {h : XH}
theorem J_lit2 {n : Nat} : (@OfNat.ofNat Int32 n Int32.instOfNat) = J (@OfNat.ofNat Int n (@instOfNat n)) := rfl
noncomputable def b01 (P : Prop) : Int := @ite Int P (Classical.propDecidable P) 1 0
theorem b01_pos (h : P) : b01 P = 1 := if_pos h
theorem b01_neg (h : ¬P) : b01 P = 0 := if_neg h
theorem J_b0 : (J (b01 P) = J 0) = ¬P := propext (by
  by_cases h : P
  · rw [b01_pos h]; exact ⟨fun e => absurd e (by decide), fun e => absurd h e⟩
  · rw [b01_neg h]; exact ⟨fun _ => h, fun _ => rfl⟩)
theorem b01_or : b01 P = 0 ∨ b01 P = 1 := by
  by_cases h : P
  · exact Or.inr (b01_pos h)
  · exact Or.inl (b01_neg h)
theorem b01_le : 0 ≤ b01 P ∧ b01 P ≤ 1 := by
  rcases b01_or (P := P) with h | h <;> omega
theorem b01_congr (h : P ↔ Q) : b01 P = b01 Q := by rw [propext h]
theorem b01_ite {d : Decidable P} : (@ite XR P d (rI (J 1) h) (rI (J 0) h)) = rI (J (b01 P)) h := by
  by_cases h : P
  · rw [if_pos h, b01_pos h]
  · rw [if_neg h, b01_neg h]
theorem b01_eti {d : Decidable P} : (@ite XR P d (rI (J 0) h) (rI (J 1) h)) = rI (J (b01 (¬P))) h := by
  by_cases h : P
  · rw [if_pos h, b01_neg (fun e => e h)]
  · rw [if_neg h, b01_pos h]
theorem rZ_b : rZ (J (b01 P)) h = rI (J (b01 P)) h := by
  unfold rZ
  rcases b01_or (P := P) with e | e <;> rw [e]
  · exact if_pos (Or.inl rfl)
  · exact if_pos (Or.inr rfl)
theorem J_div2 (h : 0 ≤ a ∧ a < 2147483648 ∧ 0 < b ∧ b < 2147483648) : J a / J b = J (a / b) := by
  rw [J_div (by omega) (by omega) (by omega) (by omega), Int.tdiv_eq_ediv_of_nonneg h.1]
theorem J_rem2 (h : 0 ≤ a ∧ a < 2147483648 ∧ 0 < b ∧ b < 2147483648) : jrem (J a) (J b) = J (a % b) := by
  unfold jrem
  rw [J_div2 h, J_mul, J_sub, Int.emod_def, Int.mul_comm]
def pw (l : Int) : Int := ((2 ^ l.toNat : Nat) : Int)
theorem J_shl1 (h : 0 ≤ l ∧ l ≤ 31) : jshl (J 1) (J l) = J (pw l) := by
  obtain ⟨n, rfl⟩ : ∃ n : Nat, l = n := ⟨l.toNat, by omega⟩
  have h2 : n ≤ 31 := by omega
  have key : ∀ i : Fin 32, jshl (J 1) (J i.1) = J (pw i.1) := by decide +kernel
  exact key ⟨n, by omega⟩
def ior (a b : Int) : Int := ((a.toNat ||| b.toNat : Nat) : Int)
def iand (a b : Int) : Int := ((a.toNat &&& b.toNat : Nat) : Int)
theorem J_bv (n : Nat) : (J n).toBitVec = BitVec.ofNat 32 n := by
  show (Int32.ofInt n).toBitVec = _
  rw [Int32.toBitVec_ofInt]
  exact BitVec.ofInt_natCast 32 n
theorem J_or (h : 0 ≤ a ∧ 0 ≤ b) : J a ||| J b = J (ior a b) := by
  obtain ⟨n, rfl⟩ : ∃ n : Nat, a = n := ⟨a.toNat, by omega⟩
  obtain ⟨m, rfl⟩ : ∃ n : Nat, b = n := ⟨b.toNat, by omega⟩
  apply Int32.toBitVec.inj
  rw [Int32.toBitVec_or, J_bv, J_bv]
  unfold ior
  rw [J_bv, Int.toNat_natCast, Int.toNat_natCast]
  apply BitVec.eq_of_getLsbD_eq
  intro i hi
  simp [hi]
theorem J_and (h : 0 ≤ a ∧ 0 ≤ b) : J a &&& J b = J (iand a b) := by
  obtain ⟨n, rfl⟩ : ∃ n : Nat, a = n := ⟨a.toNat, by omega⟩
  obtain ⟨m, rfl⟩ : ∃ n : Nat, b = n := ⟨b.toNat, by omega⟩
  apply Int32.toBitVec.inj
  rw [Int32.toBitVec_and, J_bv, J_bv]
  unfold iand
  rw [J_bv, Int.toNat_natCast, Int.toNat_natCast]
  apply BitVec.eq_of_getLsbD_eq
  intro i hi
  simp [hi]
theorem shk (h : 0 ≤ k ∧ k ≤ 31) : ((J k &&& 31).toBitVec.smod 32).toNat = k.toNat := by
  obtain ⟨n, rfl⟩ : ∃ n : Nat, k = n := ⟨k.toNat, by omega⟩
  have key : ∀ i : Fin 32, ((J i.1 &&& 31).toBitVec.smod 32).toNat = i.1 := by decide +kernel
  exact key ⟨n, by omega⟩
theorem J_shr (h : -2147483648 ≤ a ∧ a < 2147483648 ∧ 0 ≤ k ∧ k ≤ 31) : jshr (J a) (J k) = J (a / pw k) := by
  unfold jshr
  apply Int32.toInt_inj.mp
  show (J a >>> (J k &&& 31)).toBitVec.toInt = _
  rw [Int32.toBitVec_shiftRight, BitVec.toInt_sshiftRight', shk ⟨h.2.2.1, h.2.2.2⟩]
  show (J a).toInt >>> k.toNat = _
  have h1 : 1 ≤ pw k := by
    unfold pw
    have := Nat.one_le_two_pow (n := k.toNat)
    omega
  have h2 : -2147483648 ≤ a / pw k := by
    rw [Int.le_ediv_iff_mul_le (by omega)]
    have : (-2147483648) * pw k ≤ (-2147483648) * 1 := Int.mul_le_mul_of_nonpos_left (by omega) h1
    omega
  have h3 : a / pw k < 2147483648 := by
    rw [Int.ediv_lt_iff_lt_mul (by omega)]
    have : 2147483648 * 1 ≤ 2147483648 * pw k := Int.mul_le_mul_of_nonneg_left h1 (by omega)
    omega
  rw [J_to (by omega) (by omega), J_to h2 h3, Int.shiftRight_eq_div_pow]
  rfl
theorem J_ushr (h : 0 ≤ a ∧ a < 4294967296 ∧ 0 ≤ k ∧ k ≤ 31) : jushr (J a) (J k) = J (a / pw k) := by
  obtain ⟨n, rfl⟩ : ∃ n : Nat, a = n := ⟨a.toNat, by omega⟩
  obtain ⟨m, rfl⟩ : ∃ n : Nat, k = n := ⟨k.toNat, by omega⟩
  have hm : m ≤ 31 := by omega
  have key : ∀ i : Fin 32, ((J i.1).toUInt32 &&& Int32.toUInt32 31).toNat % 32 = i.1 := by decide +kernel
  have k1 := key ⟨m, by omega⟩
  unfold jushr
  have e1 : (J n).toUInt32.toNat = n := by
    show (J n).toBitVec.toNat = n
    rw [J_bv, BitVec.toNat_ofNat]
    exact Nat.mod_eq_of_lt (by omega)
  apply Int32.toBitVec.inj
  show (((J n).toUInt32 >>> ((J m).toUInt32 &&& Int32.toUInt32 31))).toBitVec = _
  apply BitVec.eq_of_toNat_eq
  show ((J n).toUInt32 >>> ((J m).toUInt32 &&& Int32.toUInt32 31)).toNat = _
  rw [UInt32.toNat_shiftRight, e1]
  rw [show ((J m).toUInt32 &&& Int32.toUInt32 31).toNat % 32 = m from k1]
  have e2 : (n : Int) / pw m = ((n / 2 ^ m : Nat) : Int) := by
    unfold pw
    rw [Int.toNat_natCast]
    exact (Int.natCast_ediv n (2 ^ m)).symm
  rw [e2, J_bv, BitVec.toNat_ofNat, Nat.shiftRight_eq_div_pow, Nat.mod_eq_of_lt]
  have := Nat.div_le_self n (2 ^ m)
  omega
/-- long numbers -/
def K (i : Int) : Int64 := Int64.ofInt i
theorem K_to {a : Int} (h : -9223372036854775808 ≤ a ∧ a < 9223372036854775808) : (K a).toInt = a := Int64.toInt_ofInt_of_le h.1 h.2
theorem J_long (h : -2147483648 ≤ a ∧ a < 2147483648) : (J a).toInt64 = K a := by
  apply Int64.toInt_inj.mp
  rw [Int32.toInt_toInt64, J_to h.1 h.2, K_to ⟨by omega, by omega⟩]
theorem K_lit {n : Nat} : (@OfNat.ofNat Int64 n Int64.instOfNat) = K (@OfNat.ofNat Int n (@instOfNat n)) := rfl
theorem K_add : K a + K b = K (a + b) := (Int64.ofInt_add a b).symm
theorem K_mul : K a * K b = K (a * b) := (Int64.ofInt_mul a b).symm
theorem K_cmp_lt (h : -9223372036854775808 ≤ a ∧ a < 9223372036854775808 ∧ -9223372036854775808 ≤ b ∧ b < 9223372036854775808) : (lg_cmp (K a) (K b) < J 0) = (a < b) := propext (by
  unfold lg_cmp
  have e1 : (K a > K b) = (b < a) := propext (by show K b < K a ↔ _; rw [Int64.lt_iff_toInt_lt, K_to ⟨h.1, h.2.1⟩, K_to h.2.2])
  have e2 : (K a = K b) = (a = b) := propext ⟨fun e => by rw [← K_to ⟨h.1, h.2.1⟩, e, K_to h.2.2], fun e => by rw [e]⟩
  simp only [e1, e2]
  by_cases c1 : b < a
  · rw [if_pos c1]; exact ⟨fun e => absurd e (by decide), fun e => by omega⟩
  · by_cases c2 : a = b
    · rw [if_neg c1, if_pos c2]; exact ⟨fun e => absurd e (by decide), fun e => by omega⟩
    · rw [if_neg c1, if_neg c2]; exact ⟨fun _ => by omega, fun _ => by decide⟩)
theorem K_cmp_gt (h : -9223372036854775808 ≤ a ∧ a < 9223372036854775808 ∧ -9223372036854775808 ≤ b ∧ b < 9223372036854775808) : (J 0 < lg_cmp (K a) (K b)) = (b < a) := propext (by
  unfold lg_cmp
  have e1 : (K a > K b) = (b < a) := propext (by show K b < K a ↔ _; rw [Int64.lt_iff_toInt_lt, K_to ⟨h.1, h.2.1⟩, K_to h.2.2])
  have e2 : (K a = K b) = (a = b) := propext ⟨fun e => by rw [← K_to ⟨h.1, h.2.1⟩, e, K_to h.2.2], fun e => by rw [e]⟩
  simp only [e1, e2]
  by_cases c1 : b < a
  · rw [if_pos c1]; exact ⟨fun _ => c1, fun _ => by decide⟩
  · by_cases c2 : a = b
    · rw [if_neg c1, if_pos c2]; exact ⟨fun e => absurd e (by decide), fun e => by omega⟩
    · rw [if_neg c1, if_neg c2]; exact ⟨fun e => absurd e (by decide), fun e => by omega⟩)
theorem K_cmp_eq (h : -9223372036854775808 ≤ a ∧ a < 9223372036854775808 ∧ -9223372036854775808 ≤ b ∧ b < 9223372036854775808) : (lg_cmp (K a) (K b) = J 0) = (a = b) := propext (by
  unfold lg_cmp
  have e1 : (K a > K b) = (b < a) := propext (by show K b < K a ↔ _; rw [Int64.lt_iff_toInt_lt, K_to ⟨h.1, h.2.1⟩, K_to h.2.2])
  have e2 : (K a = K b) = (a = b) := propext ⟨fun e => by rw [← K_to ⟨h.1, h.2.1⟩, e, K_to h.2.2], fun e => by rw [e]⟩
  simp only [e1, e2]
  by_cases c1 : b < a
  · rw [if_pos c1]; exact ⟨fun e => absurd e (by decide), fun e => by omega⟩
  · by_cases c2 : a = b
    · rw [if_neg c1, if_pos c2]; exact ⟨fun _ => c2, fun _ => rfl⟩
    · rw [if_neg c1, if_neg c2]; exact ⟨fun e => absurd e (by decide), fun e => absurd e c2⟩)
theorem M_in (h1 : -9223372036854775808 ≤ a ∧ a < 9223372036854775808 ∧ -9223372036854775808 ≤ b ∧ b < 9223372036854775808 ∧ -9223372036854775808 ≤ c ∧ c < 9223372036854775808) : qM_in (K a) (K b) (K c) h = rI (J (b01 (b ≤ a ∧ a ≤ c))) h := by
  unfold qM_in
  simp only [show (0 : Int32) = J 0 from rfl, show (1 : Int32) = J 1 from rfl, K_cmp_lt (a := a) (b := b) ⟨by omega, by omega, by omega, by omega⟩, K_cmp_gt (a := a) (b := c) ⟨by omega, by omega, by omega, by omega⟩]
  by_cases c1 : a < b
  · rw [if_pos c1, b01_neg (by omega)]
  · by_cases c2 : c < a
    · rw [if_neg c1, if_pos c2, b01_neg (by omega)]
    · rw [if_neg c1, if_neg c2, b01_pos (by omega)]
/-- a test of the set of simp rows -/
theorem test1 {y : Nat} {g : XH} {w : Int64} {m : CT} {n : Int} (hn : ok32 n) (h1 : m 0 1 = n) : qM_tapeLength y (hi y TM g w m) = rI (J n) (hi y TM g w m) := by
  unfold qM_tapeLength
  simp only [gI_M1, h1]
theorem test2 : ((5 : Int32) = J 5) ∧ (-2 : Int32) = J (-2) := by
  constructor
  · simp only [J_lit2]
  · simp only [J_lit2, J_neg]
end N2
