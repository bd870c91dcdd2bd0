/-! pairs of lines that are counted -/
section PC
variable {z y : Nat} {g g' : XH} {w w' : Int64} {s s' s0 s1 s2 m m' m0 m1 m2 : CT} {G W W' V W1 row row' r0 nm lo lg sn f : Int → Int} {wd hg mt c i j l n p v t k x xx yy N q o to : Int} {a b : Nat} {h : XH}
variable {P Q A B : Int → Prop} {k r u e : Int} {F : Int → Int → Int}
theorem smAdd {f f' : Int → Int} (hn : 0 ≤ n) : sm (fun i => f i + f' i) n = sm f n + sm f' n := by
  have key := int_ind_le (P := fun k => sm (fun i => f i + f' i) k = sm f k + sm f' k) (N := n) rfl (fun k h2 h3 ih => by
    rw [sm_s h2, sm_s h2, sm_s h2, ih]
    omega) n hn (Int.le_refl _)
  exact key
theorem sm_z {f : Int → Int} (hn : 0 ≤ n) (h : ∀ i, 0 ≤ i → i < n → f i = 0) : sm f n = 0 := by
  have := sm_bd (f := f) (n := n) (a := 0) (b := 0) hn (fun i h1 h2 => by rw [h i h1 h2]; omega)
  omega
theorem smComm (hn : 0 ≤ n) (hk : 0 ≤ k) : sm (fun i => sm (fun j => F i j) k) n = sm (fun j => sm (fun i => F i j) n) k := by
  have key := int_ind_le (P := fun q => sm (fun i => sm (fun j => F i j) k) q = sm (fun j => sm (fun i => F i j) q) k) (N := n) (by
    rw [sm_0]
    exact (sm_z hk (fun i _ _ => rfl)).symm) (fun q h2 h3 ih => by
    rw [sm_s h2, ih, ← smAdd hk]
    exact sm_congr fun j _ _ => (sm_s h2).symm) n hn (Int.le_refl _)
  exact key
theorem sm_tail {f : Int → Int} (h0 : 0 ≤ n) (h1 : n ≤ k) (h : ∀ i, n ≤ i → i < k → f i = 0) : sm f k = sm f n := by
  have key := int_ind_le (P := fun q => sm f (n + q) = sm f n) (N := k - n) (by rw [Int.add_zero]) (fun q h2 h3 ih => by
    rw [show n + (q + 1) = n + q + 1 by omega, sm_s (by omega), ih, h (n + q) (by omega) (by omega), Int.add_zero]) (k - n) (by omega) (Int.le_refl _)
  rw [show n + (k - n) = k by omega] at key
  exact key
theorem sm_one {f : Int → Int} (hq : 0 ≤ q ∧ q < n) (h : ∀ i, 0 ≤ i → i < n → i ≠ q → f i = 0) : sm f n = f q := by
  rw [sm_tail (n := q + 1) (by omega) (by omega) (fun i i1 i2 => h i (by omega) i2 (by omega)), sm_s hq.1, sm_z hq.1 (fun i i1 i2 => h i i1 (by omega) (by omega)), Int.zero_add]
theorem sm_4 {f : Int → Int} (hn : 0 ≤ n) : sm (fun c => f (4 * c) + f (4 * c + 1) + f (4 * c + 2) + f (4 * c + 3)) n = sm f (4 * n) := by
  have key := int_ind_le (P := fun q => sm (fun c => f (4 * c) + f (4 * c + 1) + f (4 * c + 2) + f (4 * c + 3)) q = sm f (4 * q)) (N := n) rfl (fun q h2 h3 ih => by
    rw [sm_s h2, ih, show 4 * (q + 1) = 4 * q + 1 + 1 + 1 + 1 by omega, sm_s (by omega), sm_s (by omega), sm_s (by omega), sm_s (by omega)]
    rw [show 4 * q + 1 + 1 + 1 = 4 * q + 3 by omega, show 4 * q + 1 + 1 = 4 * q + 2 by omega]
    omega) n hn (Int.le_refl _)
  exact key
/-- the sum over all pairs -/
def ps (f : Int → Int → Int) (n : Int) : Int := sm (fun b => sm (fun a => f a b) b) n
def psA (f : Int → Int → Int) (n : Int) : Int := sm (fun a => sm (fun j => f a (a + 1 + j)) (n - 1 - a)) n
theorem psA_ps (hn : 0 ≤ n) : psA F n = ps F n := by
  have key := int_ind_le (P := fun q => psA F q = ps F q) (N := n) rfl (fun q h2 h3 ih => by
    unfold psA ps at *
    rw [sm_s h2, sm_s h2, ← ih, show q + 1 - 1 - q = 0 by omega, sm_0, Int.add_zero, ← smAdd h2]
    exact sm_congr fun a a1 a2 => by
      rw [show q + 1 - 1 - a = q - 1 - a + 1 by omega, sm_s (by omega), show a + 1 + (q - 1 - a) = q by omega]) n hn (Int.le_refl _)
  exact key
theorem ps_congr {f f' : Int → Int → Int} (h : ∀ a b, 0 ≤ a → a < b → b < n → f a b = f' a b) : ps f n = ps f' n := sm_congr fun b b1 b2 => sm_congr fun a a1 a2 => h a b a1 a2 b2
theorem ps_tail {f : Int → Int → Int} (h0 : 0 ≤ n) (h1 : n ≤ k) (h : ∀ a b, 0 ≤ a → a < b → n ≤ b → b < k → f a b = 0) : ps f k = ps f n := sm_tail h0 h1 fun b b1 b2 => sm_z (by omega) fun a a1 a2 => h a b a1 a2 b1 b2
theorem ps_one {f : Int → Int → Int} (hp : 0 ≤ p ∧ p < q) (hq : q < n) (h : ∀ a b, 0 ≤ a → a < b → b < n → ¬(a = p ∧ b = q) → f a b = 0) : ps f n = f p q := by
  unfold ps
  rw [sm_one (q := q) (by omega) (fun b b1 b2 b3 => sm_z b1 fun a a1 a2 => h a b a1 a2 b2 (by omega)), sm_one (q := p) (by omega) (fun a a1 a2 a3 => h a q a1 a2 hq (by omega))]
theorem ps_sm {G : Int → Int → Int → Int} (hN : 0 ≤ N) (hn : 0 ≤ n) : sm (fun c => ps (G c) n) N = ps (fun a b => sm (fun c => G c a b) N) n := by
  unfold ps
  rw [smComm hN hn]
  exact sm_congr fun b b1 b2 => smComm hN b1
/-- pairs, one of each mask -/
noncomputable def prs (A B : Int → Prop) (n : Int) : Int := ps (fun a b => b01 ((A a ∧ B b) ∨ (A b ∧ B a))) n
noncomputable def tri (A : Int → Prop) (n : Int) : Int := ps (fun a b => b01 (A a ∧ A b)) n
theorem prs_f (hn : 0 ≤ n) : 2 * prs A B n + 2 * cnt (fun i => A i ∧ B i) n + cnt (fun i => A i ∧ B i) n * (cnt (fun i => A i ∧ B i) n - 1) = 2 * (cnt A n * cnt B n) := by
  have key := int_ind_le (P := fun k => 2 * prs A B k + 2 * cnt (fun i => A i ∧ B i) k + cnt (fun i => A i ∧ B i) k * (cnt (fun i => A i ∧ B i) k - 1) = 2 * (cnt A k * cnt B k)) (N := n) rfl (fun k h2 h3 ih => by
    have pS : prs A B (k + 1) = prs A B k + sm (fun a => b01 ((A a ∧ B k) ∨ (A k ∧ B a))) k := sm_s h2
    rw [pS, cnt_s h2, cnt_s h2, cnt_s h2]
    have un : cnt A k + cnt B k = cnt (fun a => A a ∨ B a) k + cnt (fun a => A a ∧ B a) k := by
      unfold cnt
      rw [← smAdd h2, ← smAdd h2]
      refine sm_congr fun a _ _ => ?_
      by_cases ha : A a
      · by_cases hb : B a
        · rw [b01_pos ha, b01_pos hb, b01_pos (Or.inl ha), b01_pos ⟨ha, hb⟩]
        · rw [b01_pos ha, b01_neg hb, b01_pos (Or.inl ha), b01_neg (fun q => hb q.2)]
      · by_cases hb : B a
        · rw [b01_neg ha, b01_pos hb, b01_pos (Or.inr hb), b01_neg (fun q => ha q.1)]
          omega
        · rw [b01_neg ha, b01_neg hb, b01_neg (fun q => q.elim ha hb), b01_neg (fun q => ha q.1)]
    have s1 : A k → B k → sm (fun a => b01 ((A a ∧ B k) ∨ (A k ∧ B a))) k = cnt (fun a => A a ∨ B a) k := fun ha hb => sm_congr fun a _ _ => b01_congr ⟨fun q => q.elim (fun q => Or.inl q.1) (fun q => Or.inr q.2), fun q => q.elim (fun q => Or.inl ⟨q, hb⟩) (fun q => Or.inr ⟨ha, q⟩)⟩
    have s2 : A k → ¬B k → sm (fun a => b01 ((A a ∧ B k) ∨ (A k ∧ B a))) k = cnt B k := fun ha hb => sm_congr fun a _ _ => b01_congr ⟨fun q => q.elim (fun q => absurd q.2 hb) (fun q => q.2), fun q => Or.inr ⟨ha, q⟩⟩
    have s3 : ¬A k → B k → sm (fun a => b01 ((A a ∧ B k) ∨ (A k ∧ B a))) k = cnt A k := fun ha hb => sm_congr fun a _ _ => b01_congr ⟨fun q => q.elim (fun q => q.1) (fun q => absurd q.1 ha), fun q => Or.inl ⟨q, hb⟩⟩
    have s4 : ¬A k → ¬B k → sm (fun a => b01 ((A a ∧ B k) ∨ (A k ∧ B a))) k = 0 := fun ha hb => sm_z h2 fun a _ _ => b01_neg (fun q => q.elim (fun q => hb q.2) (fun q => ha q.1))
    generalize sm (fun a => b01 ((A a ∧ B k) ∨ (A k ∧ B a))) k = sv at s1 s2 s3 s4 ⊢
    generalize cnt (fun a => A a ∨ B a) k = cu at un s1
    generalize prs A B k = p0 at ih ⊢
    generalize cnt (fun i => A i ∧ B i) k = x at ih un ⊢
    generalize cnt A k = ca at ih un s3 ⊢
    generalize cnt B k = cb at ih un s2 ⊢
    by_cases ha : A k
    · by_cases hb : B k
      · rw [b01_pos ha, b01_pos hb, b01_pos ⟨ha, hb⟩, s1 ha hb]
        have y1 : (ca + 1) * (cb + 1) = ca * cb + ca + cb + 1 := by
          rw [Int.add_mul, Int.mul_add, Int.mul_one, Int.one_mul]
          omega
        have y2 : (x + 1) * (x + 1 - 1) = x * (x - 1) + 2 * x := by
          rw [show x + 1 - 1 = x by omega, Int.add_mul, Int.one_mul, Int.mul_sub, Int.mul_one]
          omega
        rw [y1, y2]
        omega
      · rw [b01_pos ha, b01_neg hb, b01_neg (fun q => hb q.2), s2 ha hb]
        have y1 : (ca + 1) * (cb + 0) = ca * cb + cb := by rw [Int.add_zero, Int.add_mul, Int.one_mul]
        have y2 : (x + 0) * (x + 0 - 1) = x * (x - 1) := by rw [Int.add_zero]
        rw [y1, y2]
        omega
    · by_cases hb : B k
      · rw [b01_neg ha, b01_pos hb, b01_neg (fun q => ha q.1), s3 ha hb]
        have y1 : (ca + 0) * (cb + 1) = ca * cb + ca := by rw [Int.add_zero, Int.mul_add, Int.mul_one]
        have y2 : (x + 0) * (x + 0 - 1) = x * (x - 1) := by rw [Int.add_zero]
        rw [y1, y2]
        omega
      · rw [b01_neg ha, b01_neg hb, b01_neg (fun q => hb q.2), s4 ha hb]
        rw [Int.add_zero, Int.add_zero, Int.add_zero, Int.add_zero]
        exact ih) n hn (Int.le_refl _)
  exact key
theorem tri_f (hn : 0 ≤ n) : 2 * tri A n = cnt A n * (cnt A n - 1) := by
  have e : tri A n = prs A A n := ps_congr fun a b _ _ _ => b01_congr ⟨fun q => Or.inl q, fun q => q.elim id fun q => ⟨q.2, q.1⟩⟩
  have f := prs_f (A := A) (B := A) hn
  have c : cnt (fun i => A i ∧ A i) n = cnt A n := cnt_congr fun i _ _ => ⟨fun q => q.1, fun q => ⟨q, q⟩⟩
  rw [c] at f
  rw [e, Int.mul_sub, Int.mul_one]
  rw [Int.mul_sub, Int.mul_one] at f
  omega
end PC
