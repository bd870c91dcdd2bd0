/-! masks by their bits -/
section MK
variable {P Q : Int → Prop} {n b a k : Int}
theorem mk_tb (hn : 0 ≤ n) : ∀ i : Nat, (mk P n).toNat.testBit i = true ↔ (i : Int) < n ∧ P i := by
  refine int_ind (P := fun n => ∀ i : Nat, (mk P n).toNat.testBit i = true ↔ (i : Int) < n ∧ P i) (fun i => ?_) (fun k h1 ih i => ?_) n hn
  · rw [mk_0]
    simp
    omega
  · have h2 := mk_lt (P := P) h1
    have h3 : (mk P k).toNat < 2 ^ k.toNat := by
      unfold pw at h2
      omega
    rw [mk_s h1]
    by_cases hp : P k
    · rw [b01_pos hp, Int.one_mul]
      have e : (mk P k + pw k).toNat = 2 ^ k.toNat + (mk P k).toNat := by
        unfold pw
        omega
      rw [e]
      by_cases h4 : i < k.toNat
      · rw [Nat.testBit_two_pow_add_gt h4, ih i]
        constructor
        · exact fun h => ⟨by omega, h.2⟩
        · exact fun h => ⟨by omega, h.2⟩
      · by_cases h5 : i = k.toNat
        · subst h5
          rw [Nat.testBit_two_pow_add_eq, Nat.testBit_lt_two_pow h3, Int.toNat_of_nonneg h1]
          simp [hp]
          omega
        · rw [Nat.testBit_lt_two_pow (Nat.lt_of_lt_of_le (show 2 ^ k.toNat + (mk P k).toNat < 2 ^ (k.toNat + 1) by rw [Nat.pow_succ]; omega) (Nat.pow_le_pow_right (by decide) (show k.toNat + 1 ≤ i by omega)))]
          constructor
          · exact fun h => absurd h (by decide)
          · exact fun h => by omega
    · rw [b01_neg hp, Int.zero_mul, Int.add_zero, ih i]
      constructor
      · exact fun h => ⟨by omega, h.2⟩
      · rintro ⟨h4, h5⟩
        refine ⟨?_, h5⟩
        by_cases h6 : (i : Int) = k
        · rw [h6] at h5; exact absurd h5 hp
        · omega
theorem mk_nat (hn : 0 ≤ n) : ((mk P n).toNat : Int) = mk P n := Int.toNat_of_nonneg (mk_lt hn).1
theorem mk_of {x : Nat} (hn : 0 ≤ n) (h : ∀ i : Nat, x.testBit i = true ↔ (i : Int) < n ∧ P i) : (x : Int) = mk P n := by
  rw [← mk_nat hn]
  congr 1
  apply Nat.eq_of_testBit_eq
  intro i
  rw [Bool.eq_iff_iff, h i, mk_tb hn]
theorem ior_mk (hb : 0 ≤ b) (hn : b < n) : ior (mk P n) (pw b) = mk (fun i => P i ∨ i = b) n := by
  unfold ior
  refine mk_of (by omega) fun i => ?_
  rw [Nat.testBit_or, Bool.or_eq_true, mk_tb (by omega)]
  unfold pw
  rw [Int.toNat_natCast, Nat.testBit_two_pow, decide_eq_true_iff]
  constructor
  · rintro (⟨h1, h2⟩ | h1)
    · exact ⟨h1, Or.inl h2⟩
    · exact ⟨by omega, Or.inr (by omega)⟩
  · rintro ⟨h1, h2 | h2⟩
    · exact Or.inl ⟨h1, h2⟩
    · exact Or.inr (by omega)
theorem iand_mk (hn : 0 ≤ n) : iand (mk P n) (mk Q n) = mk (fun i => P i ∧ Q i) n := by
  unfold iand
  refine mk_of (by omega) fun i => ?_
  rw [Nat.testBit_and, Bool.and_eq_true, mk_tb hn, mk_tb hn]
  constructor
  · rintro ⟨h1, h2⟩
    exact ⟨h1.1, h1.2, h2.2⟩
  · rintro ⟨h1, h2, h3⟩
    exact ⟨⟨h1, h2⟩, h1, h3⟩
theorem ior_mk2 (hn : 0 ≤ n) : ior (mk P n) (mk Q n) = mk (fun i => P i ∨ Q i) n := by
  unfold ior
  refine mk_of (by omega) fun i => ?_
  rw [Nat.testBit_or, Bool.or_eq_true, mk_tb hn, mk_tb hn]
  constructor
  · rintro (⟨h1, h2⟩ | ⟨h1, h2⟩)
    · exact ⟨h1, Or.inl h2⟩
    · exact ⟨h1, Or.inr h2⟩
  · rintro ⟨h1, h2 | h2⟩
    · exact Or.inl ⟨h1, h2⟩
    · exact Or.inr ⟨h1, h2⟩
theorem mk_shr (hk : 0 ≤ k) (hn : k ≤ n) : mk P n / pw k = mk (fun i => P (k + i)) (n - k) := by
  have e : mk P n / pw k = (((mk P n).toNat / 2 ^ k.toNat : Nat) : Int) := by
    unfold pw
    rw [Int.natCast_ediv, mk_nat (by omega)]
  rw [e]
  refine mk_of (by omega) fun i => ?_
  rw [Nat.testBit_div_two_pow, mk_tb (by omega)]
  have e2 : ((i + k.toNat : Nat) : Int) = k + i := by omega
  constructor
  · rintro ⟨h1, h2⟩
    rw [e2] at h2
    exact ⟨by omega, h2⟩
  · rintro ⟨h1, h2⟩
    rw [e2]
    exact ⟨by omega, h2⟩
theorem mk_sub {w : Int} (hw : 0 ≤ w) (hn : w ≤ n) : iand (mk P n) (mk (fun _ => True) w) = mk P w := by
  unfold iand
  refine mk_of hw fun i => ?_
  rw [Nat.testBit_and, Bool.and_eq_true, mk_tb (by omega), mk_tb hw]
  constructor
  · rintro ⟨h1, h2⟩
    exact ⟨h2.1, h1.2⟩
  · rintro ⟨h1, h2⟩
    exact ⟨⟨by omega, h2⟩, h1, trivial⟩
theorem mk_true8 : mk (fun _ => True) 8 = 255 := by
  have : ∀ k : Nat, sumN (fun l => b01 True * pw l) (k + 1) = sumN (fun l => b01 True * pw l) k + pw k := fun k => by
    show sumN (fun l => b01 True * pw l) k + b01 True * pw k = _
    rw [b01_pos trivial, Int.one_mul]
  show sumN (fun l => b01 True * pw l) 8 = 255
  rw [this, this, this, this, this, this, this, this]
  rfl
theorem mk_le255 : 0 ≤ mk P 8 ∧ mk P 8 ≤ 255 := by
  have := mk_lt (P := P) (n := 8) (by omega)
  have e : pw 8 = 256 := rfl
  omega
theorem mk_zero (hn : 0 ≤ n) (h : ∀ i, 0 ≤ i → i < n → ¬P i) : mk P n = 0 := by
  rw [mk_congr (Q := fun _ => False) (fun i h1 h2 => ⟨fun h3 => h i h1 h2 h3, fun h3 => h3.elim⟩)]
  have := sm_bd (f := fun l => b01 ((fun _ : Int => False) l) * pw l) (a := 0) (b := 0) hn (fun i _ _ => by
    rw [b01_neg (fun h => h), Int.zero_mul]
    omega)
  show sm (fun l => b01 ((fun _ : Int => False) l) * pw l) n = 0
  omega
theorem mk_pos (hn : 0 ≤ n) : mk P n ≠ 0 ↔ ∃ i, 0 ≤ i ∧ i < n ∧ P i := by
  constructor
  · intro h
    by_cases hc : ∃ i, 0 ≤ i ∧ i < n ∧ P i
    · exact hc
    · exact absurd (mk_zero hn fun i h1 h2 h3 => hc ⟨i, h1, h2, h3⟩) h
  · rintro ⟨i, h1, h2, h3⟩ h4
    have := (mk_tb (P := P) hn i.toNat).mpr ⟨by omega, by rw [Int.toNat_of_nonneg h1]; exact h3⟩
    rw [h4] at this
    simp at this
end MK
/-! what lies on the board: the pure picture -/
section PB
variable {W : Int → Int} {l k c t n j i : Int}
def onK (W : Int → Int) (l k c : Int) : Prop := ∃ i, 0 ≤ i ∧ i ≤ k ∧ Ps W l i = c
noncomputable def edge (W : Int → Int) (l k : Int) : Int := 4 * (if Dw W l k < 4 then Ps W l k else Ps W l (k + 1)) + Dw W l k % 4
def onE (W : Int → Int) (l k j : Int) : Prop := ∃ i, 0 ≤ i ∧ i < k ∧ edge W l i = j
def hs (W : Int → Int) (l t c : Int) : Prop := ∃ i, 0 ≤ i ∧ i < t ∧ sc W l i = c
noncomputable def cs (W : Int → Int) (l t c : Int) : Int := cnt (fun s => sc W l s = c) t
def mxN (f : Int → Int) : Nat → Int
  | 0 => 0
  | n + 1 => max (mxN f n) (f n)
def mx (f : Int → Int) (n : Int) : Int := mxN f n.toNat
theorem mx_0 {f : Int → Int} : mx f 0 = 0 := rfl
theorem mx_s {f : Int → Int} (h : 0 ≤ n) : mx f (n + 1) = max (mx f n) (f n) := by
  unfold mx
  rw [show (n + 1).toNat = n.toNat + 1 by omega]
  show max (mxN f n.toNat) (f (n.toNat : Int)) = _
  rw [Int.toNat_of_nonneg h]
theorem mx_bd {f : Int → Int} {b : Int} (hb : 0 ≤ b) (hn : 0 ≤ n) (h : ∀ i, 0 ≤ i → i < n → f i ≤ b) : 0 ≤ mx f n ∧ mx f n ≤ b := by
  refine int_ind_le (P := fun n => 0 ≤ mx f n ∧ mx f n ≤ b) (N := n) ⟨by rw [mx_0]; omega, by rw [mx_0]; omega⟩ (fun k h1 h2 ih => ?_) n hn (Int.le_refl n)
  rw [mx_s h1]
  have := h k h1 h2
  omega
theorem mx_ge {f : Int → Int} (h0 : 0 ≤ i) (h1 : i < n) : f i ≤ mx f n := by
  refine int_ind_le (P := fun n => i < n → f i ≤ mx f n) (N := n) (fun h => by omega) (fun k h2 h3 ih h4 => ?_) n (by omega) (Int.le_refl n) h1
  rw [mx_s h2]
  by_cases h5 : i < k
  · have := ih h5; omega
  · rw [show k = i by omega]; omega
noncomputable def lf (W : Int → Int) (l c s : Int) : Int := @ite Int (sc W l s = c) (Classical.propDecidable _) (cZ W l + s % 3) 0
noncomputable def ml (W : Int → Int) (l t c : Int) : Int := mx (lf W l c) t
/-- the lines that come to a cell; that have a step; how many stations; which lines' stations; the long -/
noncomputable def LOp (W : Int → Int) (l k c : Int) : Int := mk (fun i => (i < l ∧ onK W i (len W i) c) ∨ (i = l ∧ onK W l k c)) 8
noncomputable def LO (W : Int → Int) (n c : Int) : Int := mk (fun i => i < n ∧ onK W i (len W i) c) 8
noncomputable def LVp (W : Int → Int) (l k j : Int) : Int := mk (fun i => (i < l ∧ onE W i (len W i) j) ∨ (i = l ∧ onE W l k j)) 8
noncomputable def LVs (W : Int → Int) (n j : Int) : Int := mk (fun i => i < n ∧ onE W i (len W i) j) 8
noncomputable def SPp (W : Int → Int) (l k c : Int) : Int := mk (fun b => (b % 8 < l ∧ onE W (b % 8) (len W (b % 8)) (4 * c + b / 8)) ∨ (b % 8 = l ∧ onE W l k (4 * c + b / 8))) 32
noncomputable def SP (W : Int → Int) (n c : Int) : Int := mk (fun b => b % 8 < n ∧ onE W (b % 8) (len W (b % 8)) (4 * c + b / 8)) 32
noncomputable def SMp (W : Int → Int) (l t c : Int) : Int := mk (fun i => (i < l ∧ hs W i (cT W i) c) ∨ (i = l ∧ hs W l t c)) 8
noncomputable def SM (W : Int → Int) (n c : Int) : Int := mk (fun i => i < n ∧ hs W i (cT W i) c) 8
noncomputable def SN (W : Int → Int) (n c : Int) : Int := sm (fun l => cs W l (cT W l) c) n
noncomputable def LN (W : Int → Int) (n c : Int) : Int := mx (fun l => ml W l (cT W l) c) n
theorem onK_s (h : 0 ≤ k) : onK W l (k + 1) c ↔ onK W l k c ∨ Ps W l (k + 1) = c := by
  constructor
  · rintro ⟨i, h1, h2, h3⟩
    by_cases h4 : i ≤ k
    · exact Or.inl ⟨i, h1, h4, h3⟩
    · rw [show i = k + 1 by omega] at h3; exact Or.inr h3
  · rintro (⟨i, h1, h2, h3⟩ | h3)
    · exact ⟨i, h1, by omega, h3⟩
    · exact ⟨k + 1, by omega, by omega, h3⟩
theorem onK_0 : onK W l 0 c ↔ Ps W l 0 = c := by
  constructor
  · rintro ⟨i, h1, h2, h3⟩
    rw [show i = 0 by omega] at h3; exact h3
  · exact fun h => ⟨0, by omega, by omega, h⟩
theorem onE_s (h : 0 ≤ k) : onE W l (k + 1) j ↔ onE W l k j ∨ edge W l k = j := by
  constructor
  · rintro ⟨i, h1, h2, h3⟩
    by_cases h4 : i < k
    · exact Or.inl ⟨i, h1, h4, h3⟩
    · rw [show i = k by omega] at h3; exact Or.inr h3
  · rintro (⟨i, h1, h2, h3⟩ | h3)
    · exact ⟨i, h1, by omega, h3⟩
    · exact ⟨k, by omega, by omega, h3⟩
theorem onE_0 : ¬onE W l 0 j := fun ⟨i, h1, h2, _⟩ => by omega
theorem hs_s (h : 0 ≤ t) : hs W l (t + 1) c ↔ hs W l t c ∨ sc W l t = c := by
  constructor
  · rintro ⟨i, h1, h2, h3⟩
    by_cases h4 : i < t
    · exact Or.inl ⟨i, h1, h4, h3⟩
    · rw [show i = t by omega] at h3; exact Or.inr h3
  · rintro (⟨i, h1, h2, h3⟩ | h3)
    · exact ⟨i, h1, by omega, h3⟩
    · exact ⟨t, by omega, by omega, h3⟩
theorem hs_0 : ¬hs W l 0 c := fun ⟨i, h1, h2, _⟩ => by omega
theorem LOp_end : LOp W l (len W l) c = LO W (l + 1) c := mk_congr fun i _ _ => by
  constructor
  · rintro (⟨h1, h2⟩ | ⟨rfl, h2⟩)
    · exact ⟨by omega, h2⟩
    · exact ⟨by omega, h2⟩
  · rintro ⟨h1, h2⟩
    by_cases h3 : i < l
    · exact Or.inl ⟨h3, h2⟩
    · have e : i = l := by omega
      subst e
      exact Or.inr ⟨rfl, h2⟩
theorem LVp_end : LVp W l (len W l) c = LVs W (l + 1) c := mk_congr fun i _ _ => by
  constructor
  · rintro (⟨h1, h2⟩ | ⟨rfl, h2⟩)
    · exact ⟨by omega, h2⟩
    · exact ⟨by omega, h2⟩
  · rintro ⟨h1, h2⟩
    by_cases h3 : i < l
    · exact Or.inl ⟨h3, h2⟩
    · have e : i = l := by omega
      subst e
      exact Or.inr ⟨rfl, h2⟩
theorem SPp_end : SPp W l (len W l) c = SP W (l + 1) c := mk_congr fun i _ _ => by
  constructor
  · rintro (⟨h1, h2⟩ | ⟨h1, h2⟩)
    · exact ⟨by omega, h2⟩
    · exact ⟨by omega, by rw [h1]; exact h2⟩
  · rintro ⟨h1, h2⟩
    by_cases h3 : i % 8 < l
    · exact Or.inl ⟨h3, h2⟩
    · have e : i % 8 = l := by omega
      rw [e] at h2
      exact Or.inr ⟨e, h2⟩
theorem SMp_end : SMp W l (cT W l) c = SM W (l + 1) c := mk_congr fun i _ _ => by
  constructor
  · rintro (⟨h1, h2⟩ | ⟨rfl, h2⟩)
    · exact ⟨by omega, h2⟩
    · exact ⟨by omega, h2⟩
  · rintro ⟨h1, h2⟩
    by_cases h3 : i < l
    · exact Or.inl ⟨h3, h2⟩
    · have e : i = l := by omega
      subst e
      exact Or.inr ⟨rfl, h2⟩
theorem LVp_0 : LVp W l 0 c = LVs W l c := mk_congr fun i _ _ => by
  constructor
  · rintro (h | ⟨_, h⟩)
    · exact h
    · exact absurd h onE_0
  · exact Or.inl
theorem SPp_0 : SPp W l 0 c = SP W l c := mk_congr fun i _ _ => by
  constructor
  · rintro (h | ⟨_, h⟩)
    · exact h
    · exact absurd h onE_0
  · exact Or.inl
theorem SMp_0 : SMp W l 0 c = SM W l c := mk_congr fun i _ _ => by
  constructor
  · rintro (h | ⟨_, h⟩)
    · exact h
    · exact absurd h hs_0
  · exact Or.inl
/-- one bit more in the cells that are met -/
theorem LOp_s (hl : 0 ≤ l ∧ l < 8) (hk : 0 ≤ k) : LOp W l (k + 1) c = if c = Ps W l (k + 1) then ior (LOp W l k c) (pw l) else LOp W l k c := by
  unfold LOp
  split
  · rename_i e
    rw [ior_mk hl.1 hl.2]
    refine mk_congr fun i _ _ => ?_
    rw [onK_s hk]
    constructor
    · rintro (h | ⟨h, _⟩)
      · exact Or.inl (Or.inl h)
      · exact Or.inr h
    · rintro ((h | ⟨h1, h2⟩) | h)
      · exact Or.inl h
      · exact Or.inr ⟨h1, Or.inl h2⟩
      · exact Or.inr ⟨h, Or.inr e.symm⟩
  · rename_i e
    refine mk_congr fun i _ _ => ?_
    rw [onK_s hk]
    constructor
    · rintro (h | ⟨h1, h2 | h2⟩)
      · exact Or.inl h
      · exact Or.inr ⟨h1, h2⟩
      · exact absurd h2.symm e
    · rintro (h | ⟨h1, h2⟩)
      · exact Or.inl h
      · exact Or.inr ⟨h1, Or.inl h2⟩
theorem LOp_0 (hl : 0 ≤ l ∧ l < 8) : LOp W l 0 c = if c = Ps W l 0 then ior (LO W l c) (pw l) else LO W l c := by
  unfold LOp LO
  split
  · rename_i e
    rw [ior_mk hl.1 hl.2]
    refine mk_congr fun i _ _ => ?_
    rw [onK_0]
    constructor
    · rintro (h | ⟨h, _⟩)
      · exact Or.inl h
      · exact Or.inr h
    · rintro (h | h)
      · exact Or.inl h
      · exact Or.inr ⟨h, e.symm⟩
  · rename_i e
    refine mk_congr fun i _ _ => ?_
    rw [onK_0]
    constructor
    · rintro (h | ⟨h1, h2⟩)
      · exact h
      · exact absurd h2.symm e
    · exact Or.inl
theorem LVp_s (hl : 0 ≤ l ∧ l < 8) (hk : 0 ≤ k) : LVp W l (k + 1) c = if c = edge W l k then ior (LVp W l k c) (pw l) else LVp W l k c := by
  unfold LVp
  split
  · rename_i e
    rw [ior_mk hl.1 hl.2]
    refine mk_congr fun i _ _ => ?_
    rw [onE_s hk]
    constructor
    · rintro (h | ⟨h, _⟩)
      · exact Or.inl (Or.inl h)
      · exact Or.inr h
    · rintro ((h | ⟨h1, h2⟩) | h)
      · exact Or.inl h
      · exact Or.inr ⟨h1, Or.inl h2⟩
      · exact Or.inr ⟨h, Or.inr e.symm⟩
  · rename_i e
    refine mk_congr fun i _ _ => ?_
    rw [onE_s hk]
    constructor
    · rintro (h | ⟨h1, h2 | h2⟩)
      · exact Or.inl h
      · exact Or.inr ⟨h1, h2⟩
      · exact absurd h2.symm e
    · rintro (h | ⟨h1, h2⟩)
      · exact Or.inl h
      · exact Or.inr ⟨h1, Or.inl h2⟩
theorem SMp_s (hl : 0 ≤ l ∧ l < 8) (hk : 0 ≤ t) : SMp W l (t + 1) c = if c = sc W l t then ior (SMp W l t c) (pw l) else SMp W l t c := by
  unfold SMp
  split
  · rename_i e
    rw [ior_mk hl.1 hl.2]
    refine mk_congr fun i _ _ => ?_
    rw [hs_s hk]
    constructor
    · rintro (h | ⟨h, _⟩)
      · exact Or.inl (Or.inl h)
      · exact Or.inr h
    · rintro ((h | ⟨h1, h2⟩) | h)
      · exact Or.inl h
      · exact Or.inr ⟨h1, Or.inl h2⟩
      · exact Or.inr ⟨h, Or.inr e.symm⟩
  · rename_i e
    refine mk_congr fun i _ _ => ?_
    rw [hs_s hk]
    constructor
    · rintro (h | ⟨h1, h2 | h2⟩)
      · exact Or.inl h
      · exact Or.inr ⟨h1, h2⟩
      · exact absurd h2.symm e
    · rintro (h | ⟨h1, h2⟩)
      · exact Or.inl h
      · exact Or.inr ⟨h1, Or.inl h2⟩
theorem SPp_s (hl : 0 ≤ l ∧ l < 8) (hk : 0 ≤ k) : SPp W l (k + 1) c = if c = edge W l k / 4 then ior (SPp W l k c) (pw (8 * (edge W l k % 4) + l)) else SPp W l k c := by
  have e4 : ∀ x : Int, 0 ≤ x % 4 ∧ x % 4 < 4 := fun x => by omega
  have e5 := e4 (edge W l k)
  unfold SPp
  split
  · rename_i e
    rw [ior_mk (by omega) (by omega)]
    refine mk_congr fun i h0 h00 => ?_
    rw [onE_s hk]
    constructor
    · rintro (h | ⟨h1, h2 | h2⟩)
      · exact Or.inl (Or.inl h)
      · exact Or.inl (Or.inr ⟨h1, h2⟩)
      · exact Or.inr (by omega)
    · rintro ((h | ⟨h1, h2⟩) | h)
      · exact Or.inl h
      · exact Or.inr ⟨h1, Or.inl h2⟩
      · exact Or.inr ⟨by omega, Or.inr (by omega)⟩
  · rename_i e
    refine mk_congr fun i h0 h00 => ?_
    rw [onE_s hk]
    constructor
    · rintro (h | ⟨h1, h2 | h2⟩)
      · exact Or.inl h
      · exact Or.inr ⟨h1, h2⟩
      · exact absurd (show c = edge W l k / 4 by omega) e
    · rintro (h | ⟨h1, h2⟩)
      · exact Or.inl h
      · exact Or.inr ⟨h1, Or.inl h2⟩
theorem cs_s (h : 0 ≤ t) : cs W l (t + 1) c = if c = sc W l t then cs W l t c + 1 else cs W l t c := by
  unfold cs
  rw [cnt_s h]
  split
  · rename_i e
    rw [b01_pos e.symm]
  · rename_i e
    rw [b01_neg (fun h => e h.symm), Int.add_zero]
theorem cs_0 : cs W l 0 c = 0 := rfl
theorem ml_s (h : 0 ≤ t) : ml W l (t + 1) c = max (ml W l t c) (if c = sc W l t then cZ W l + t % 3 else 0) := by
  unfold ml
  rw [mx_s h]
  congr 1
  unfold lf
  by_cases e : c = sc W l t
  · rw [if_pos e, if_pos e.symm]
  · rw [if_neg e, if_neg (fun h => e h.symm)]
theorem ml_0 : ml W l 0 c = 0 := rfl
theorem ml_nn (h : 0 ≤ t) (hz : 0 ≤ cZ W l) : 0 ≤ ml W l t c := by
  refine int_ind (P := fun t => 0 ≤ ml W l t c) (by rw [ml_0]; omega) (fun k h1 ih => ?_) t h
  rw [ml_s h1]
  omega
theorem SN_s (h : 0 ≤ n) : SN W (n + 1) c = SN W n c + cs W n (cT W n) c := sm_s h
theorem LN_s (h : 0 ≤ n) : LN W (n + 1) c = max (LN W n c) (ml W n (cT W n) c) := mx_s h
theorem edge_in (h : LG W l) (h0 : 0 ≤ k) (h1 : k < len W l) : 0 ≤ edge W l k ∧ edge W l k < 6400 := by
  have a1 := Ps_in h h0 (by omega)
  have a2 := Ps_in h (k := k + 1) (by omega) (by omega)
  have a3 := Dw_in h h0 h1
  unfold edge
  split <;> omega
end PB
