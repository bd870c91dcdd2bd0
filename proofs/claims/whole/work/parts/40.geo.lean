/-! sums and counts -/
section SU
variable {f g : Int → Int} {n i j a b l : Int} {P Q : Int → Prop}
theorem int_ind {P : Int → Prop} (h0 : P 0) (hs : ∀ n, 0 ≤ n → P n → P (n + 1)) : ∀ n, 0 ≤ n → P n := by
  intro n hn
  obtain ⟨k, rfl⟩ : ∃ k : Nat, n = k := ⟨n.toNat, by omega⟩
  induction k with
  | zero => exact h0
  | succ k ih => exact hs k (by omega) (ih (by omega))
theorem int_ind_le {P : Int → Prop} {N : Int} (h0 : P 0) (hs : ∀ n, 0 ≤ n → n < N → P n → P (n + 1)) : ∀ n, 0 ≤ n → n ≤ N → P n := by
  intro n hn
  exact int_ind (P := fun n => n ≤ N → P n) (fun _ => h0) (fun n h1 ih h2 => hs n h1 (by omega) (ih (by omega))) n hn
def sumN (f : Int → Int) : Nat → Int
  | 0 => 0
  | n + 1 => sumN f n + f n
def sm (f : Int → Int) (n : Int) : Int := sumN f n.toNat
theorem sm_0 : sm f 0 = 0 := rfl
theorem sm_neg (h : n ≤ 0) : sm f n = 0 := by
  unfold sm
  rw [show n.toNat = 0 by omega]
  rfl
theorem sm_s (h : 0 ≤ n) : sm f (n + 1) = sm f n + f n := by
  unfold sm
  rw [show (n + 1).toNat = n.toNat + 1 by omega]
  show sumN f n.toNat + f (n.toNat : Int) = _
  rw [Int.toNat_of_nonneg h]
theorem sm_congr (h : ∀ i, 0 ≤ i → i < n → f i = g i) : sm f n = sm g n := by
  by_cases hn : 0 ≤ n
  · exact int_ind_le (P := fun n => sm f n = sm g n) (N := n) rfl (fun k h1 h2 ih => by rw [sm_s h1, sm_s h1, ih, h k h1 h2]) n hn (Int.le_refl n)
  · rw [sm_neg (by omega), sm_neg (by omega)]
theorem sm_bd (hn : 0 ≤ n) (h : ∀ i, 0 ≤ i → i < n → a ≤ f i ∧ f i ≤ b) : a * n ≤ sm f n ∧ sm f n ≤ b * n := by
  refine int_ind_le (P := fun n => a * n ≤ sm f n ∧ sm f n ≤ b * n) (N := n) ⟨by rw [sm_0]; omega, by rw [sm_0]; omega⟩ (fun k h1 h2 ih => ?_) n hn (Int.le_refl n)
  rw [sm_s h1, Int.mul_add, Int.mul_add]
  have := h k h1 h2
  omega
theorem sm_mono (hi : 0 ≤ i) (hj : i ≤ j) (h : ∀ k, i ≤ k → k < j → 0 ≤ f k) : sm f i ≤ sm f j := by
  have := int_ind_le (P := fun n => sm f i ≤ sm f (i + n)) (N := j - i) (by rw [Int.add_zero]; exact Int.le_refl _) (fun k h1 h2 ih => by
    rw [← Int.add_assoc, sm_s (by omega)]
    have := h (i + k) (by omega) (by omega)
    omega) (j - i) (by omega) (Int.le_refl _)
  rw [show i + (j - i) = j by omega] at this
  exact this
theorem sm_mono1 (hi : 0 ≤ i) (hj : i ≤ j) (h : ∀ k, i ≤ k → k < j → 1 ≤ f k) : sm f i + (j - i) ≤ sm f j := by
  have := int_ind_le (P := fun n => sm f i + n ≤ sm f (i + n)) (N := j - i) (by rw [Int.add_zero, Int.add_zero]; exact Int.le_refl _) (fun k h1 h2 ih => by
    rw [← Int.add_assoc, ← Int.add_assoc, sm_s (by omega)]
    have := h (i + k) (by omega) (by omega)
    omega) (j - i) (by omega) (Int.le_refl _)
  rw [show i + (j - i) = j by omega] at this
  exact this
noncomputable def cnt (P : Int → Prop) (n : Int) : Int := sm (fun i => b01 (P i)) n
theorem cnt_0 : cnt P 0 = 0 := rfl
theorem cnt_s (h : 0 ≤ n) : cnt P (n + 1) = cnt P n + b01 (P n) := sm_s h
theorem cnt_bd (h : 0 ≤ n) : 0 ≤ cnt P n ∧ cnt P n ≤ n := by
  have := sm_bd (f := fun i => b01 (P i)) (a := 0) (b := 1) h (fun i _ _ => b01_le)
  unfold cnt
  omega
theorem cnt_congr (h : ∀ i, 0 ≤ i → i < n → (P i ↔ Q i)) : cnt P n = cnt Q n := sm_congr fun i h1 h2 => b01_congr (h i h1 h2)
theorem cnt_mono (hi : 0 ≤ i) (hj : i ≤ j) : cnt P i ≤ cnt P j := sm_mono hi hj fun _ _ _ => b01_le.1
theorem cnt_lt {r : Int} (hr : 0 ≤ r) (hn : r ≤ n) : cnt (fun q => q < r) n = r := by
  have := int_ind_le (P := fun n => cnt (fun q => q < r) n = min r n) (N := n) (by rw [cnt_0]; omega) (fun k h1 h2 ih => by
    rw [cnt_s h1, ih]
    by_cases h : k < r
    · rw [b01_pos h]; omega
    · rw [b01_neg h]; omega) n (by omega) (Int.le_refl n)
  rw [this]
  omega
theorem cnt_zero (hn : 0 ≤ n) (h : ∀ i, 0 ≤ i → i < n → ¬P i) : cnt P n = 0 := by
  have := sm_bd (f := fun i => b01 (P i)) (a := 0) (b := 0) hn (fun i h1 h2 => by rw [b01_neg (h i h1 h2)]; omega)
  unfold cnt
  omega
theorem cnt_pos : (0 < cnt P n) ↔ ∃ i, 0 ≤ i ∧ i < n ∧ P i := by
  constructor
  · intro h
    by_cases hn : 0 ≤ n
    · by_cases hc : ∃ i, 0 ≤ i ∧ i < n ∧ P i
      · exact hc
      · have := cnt_zero hn (P := P) (fun i h1 h2 h3 => hc ⟨i, h1, h2, h3⟩)
        omega
    · have : cnt P n = 0 := sm_neg (by omega)
      omega
  · rintro ⟨i, h1, h2, h3⟩
    have e := cnt_s (P := P) h1
    rw [b01_pos h3] at e
    have := cnt_bd (P := P) h1
    have := cnt_mono (P := P) (show 0 ≤ i + 1 by omega) (show i + 1 ≤ n by omega)
    omega
/-- masks -/
theorem pw_s (h : 0 ≤ n) : pw (n + 1) = 2 * pw n := by
  unfold pw
  rw [show (n + 1).toNat = n.toNat + 1 by omega, Nat.pow_succ]
  omega
theorem pw_pos : 1 ≤ pw n := by
  unfold pw
  have := Nat.one_le_two_pow (n := n.toNat)
  omega
noncomputable def mk (P : Int → Prop) (n : Int) : Int := sm (fun l => b01 (P l) * pw l) n
theorem mk_0 : mk P 0 = 0 := rfl
theorem mk_s (h : 0 ≤ n) : mk P (n + 1) = mk P n + b01 (P n) * pw n := sm_s h
theorem mk_congr (h : ∀ i, 0 ≤ i → i < n → (P i ↔ Q i)) : mk P n = mk Q n := sm_congr fun i h1 h2 => by rw [b01_congr (h i h1 h2)]
theorem mk_lt (h : 0 ≤ n) : 0 ≤ mk P n ∧ mk P n < pw n := by
  refine int_ind (P := fun n => 0 ≤ mk P n ∧ mk P n < pw n) ⟨by rw [mk_0]; omega, by rw [mk_0]; exact pw_pos⟩ (fun k h1 ih => ?_) n h
  rw [mk_s h1, pw_s h1]
  rcases b01_or (P := P k) with e | e <;> rw [e] <;> omega
theorem ior_lt (h : 0 ≤ a ∧ a < pw l) : ior a (pw l) = a + pw l := by
  obtain ⟨k, rfl⟩ : ∃ k : Nat, a = k := ⟨a.toNat, by omega⟩
  unfold ior pw at *
  have h2 : k < 2 ^ l.toNat := by omega
  have := Nat.two_pow_add_eq_or_of_lt h2 1
  rw [Nat.mul_one] at this
  rw [Int.toNat_natCast, Int.toNat_natCast, Nat.or_comm, ← this]
  omega
theorem ior_self (h : 0 ≤ a ∧ a < pw l) : ior (a + pw l) (pw l) = a + pw l := by
  rw [← ior_lt h]
  unfold ior
  rw [Int.toNat_natCast, Nat.or_assoc, Nat.or_self]
theorem ior_b {P : Prop} (h : 0 ≤ a ∧ a < pw l) : ior (a + b01 P * pw l) (pw l) = a + pw l := by
  rcases b01_or (P := P) with e | e <;> rw [e]
  · rw [Int.zero_mul, Int.add_zero, ior_lt h]
  · rw [Int.one_mul, ior_self h]
end SU
/-! lines on the board, as they are -/
section GE
variable {W : Int → Int} {l r k j a b : Int}
def cX (W : Int → Int) (l p : Int) : Int := W (23 * l + (3 + 2 * p))
def cY (W : Int → Int) (l p : Int) : Int := W (23 * l + (3 + 2 * p + 1))
def cZ (W : Int → Int) (l : Int) : Int := W (23 * l + 0)
def cT (W : Int → Int) (l : Int) : Int := W (23 * l + 1)
def cN (W : Int → Int) (l : Int) : Int := W (23 * l + 2)
def wy (W : Int → Int) (l r : Int) : Int := wayI (cX W l (r + 1) - cX W l r) (cY W l (r + 1) - cY W l r)
def sp (W : Int → Int) (l r : Int) : Int := max (cX W l (r + 1) - cX W l r).natAbs (cY W l (r + 1) - cY W l r).natAbs
def pr (W : Int → Int) (l r : Int) : Int := sm (sp W l) r
def len (W : Int → Int) (l : Int) : Int := pr W l (cN W l - 1)
theorem run_ok (h : 0 ≤ wayI a b) : a = ((max a.natAbs b.natAbs : Nat) : Int) * dxI (wayI a b) ∧ b = ((max a.natAbs b.natAbs : Nat) : Int) * dyI (wayI a b) ∧ 1 ≤ ((max a.natAbs b.natAbs : Nat) : Int) := by
  have h0 : ¬(a = 0 ∧ b = 0) := by
    rintro ⟨rfl, rfl⟩
    exact absurd h (by decide)
  have h1 : ¬(a ≠ 0 ∧ b ≠ 0 ∧ a.natAbs ≠ b.natAbs) := by
    intro hc
    unfold wayI at h
    rw [if_pos hc] at h
    omega
  obtain ⟨k, k1, k2, k3, k4, -⟩ := wayI_first h0 h1
  rw [k2, k3, k4]
  rcases sgn_of a with ⟨ha, ea⟩ | ⟨ha, ea⟩ | ⟨ha, ea⟩ <;> rcases sgn_of b with ⟨hb, eb⟩ | ⟨hb, eb⟩ | ⟨hb, eb⟩ <;> rw [ea, eb] <;> omega
theorem sp_cast : sp W l r = ((max (cX W l (r + 1) - cX W l r).natAbs (cY W l (r + 1) - cY W l r).natAbs : Nat) : Int) := by
  unfold sp
  omega
/-- a line's numbers are in their ranges -/
def LB (W : Int → Int) (l : Int) : Prop := (2 ≤ cN W l ∧ cN W l ≤ 10) ∧ (2 ≤ cT W l ∧ cT W l ≤ 20) ∧ (1 ≤ cZ W l ∧ cZ W l ≤ 10) ∧ ∀ p, 0 ≤ p → p < cN W l → (0 ≤ cX W l p ∧ cX W l p < 40) ∧ 0 ≤ cY W l p ∧ cY W l p < 40
/-- and it runs, and is long enough -/
def LG (W : Int → Int) (l : Int) : Prop := LB W l ∧ (∀ r, 0 ≤ r → r < cN W l - 1 → 0 ≤ wy W l r) ∧ cT W l - 1 ≤ len W l
theorem sp_bd (h : LB W l) (h0 : 0 ≤ r) (h1 : r < cN W l - 1) : 0 ≤ sp W l r ∧ sp W l r ≤ 39 := by
  have a1 := h.2.2.2 r h0 (by omega)
  have a2 := h.2.2.2 (r + 1) (by omega) (by omega)
  unfold sp
  omega
theorem sp_pos (h : LG W l) (h0 : 0 ≤ r) (h1 : r < cN W l - 1) : 1 ≤ sp W l r := by
  have := run_ok (h.2.1 r h0 h1)
  rw [sp_cast]
  exact this.2.2
theorem run_x (h : LG W l) (h0 : 0 ≤ r) (h1 : r < cN W l - 1) : cX W l (r + 1) = cX W l r + sp W l r * dxI (wy W l r) := by
  have := (run_ok (h.2.1 r h0 h1)).1
  rw [← sp_cast] at this
  unfold wy
  omega
theorem run_y (h : LG W l) (h0 : 0 ≤ r) (h1 : r < cN W l - 1) : cY W l (r + 1) = cY W l r + sp W l r * dyI (wy W l r) := by
  have := (run_ok (h.2.1 r h0 h1)).2.1
  rw [← sp_cast] at this
  unfold wy
  omega
theorem wy_le : -1 ≤ wy W l r ∧ wy W l r ≤ 7 := wayI_in _ _
theorem pr_0 : pr W l 0 = 0 := rfl
theorem pr_s (h : 0 ≤ r) : pr W l (r + 1) = pr W l r + sp W l r := sm_s h
theorem pr_bd (h : LB W l) (h0 : 0 ≤ r) (h1 : r ≤ cN W l - 1) : 0 ≤ pr W l r ∧ pr W l r ≤ 39 * r := by
  have := sm_bd (f := sp W l) (a := 0) (b := 39) h0 (fun i h2 h3 => sp_bd h h2 (by omega))
  unfold pr
  omega
theorem pr_mono (h : LG W l) (h0 : 0 ≤ r) (h1 : r ≤ k) (h2 : k ≤ cN W l - 1) : pr W l r + (k - r) ≤ pr W l k := sm_mono1 h0 h1 fun i h3 h4 => sp_pos h (by omega) (by omega)
theorem len_bd (h : LB W l) : 0 ≤ len W l ∧ len W l ≤ 351 := by
  have h1 := h.1
  have := pr_bd h (r := cN W l - 1) (by omega) (by omega)
  unfold len
  omega
theorem len_pos (h : LG W l) : 1 ≤ len W l := by
  have := h.2.2
  have := h.1.2.1
  omega
/-- the run of a step -/
noncomputable def rr (W : Int → Int) (l k : Int) : Int := cnt (fun q => pr W l (q + 1) ≤ k) (cN W l - 2)
theorem rr_bd (h : LB W l) : 0 ≤ rr W l k ∧ rr W l k ≤ cN W l - 2 := by
  have := h.1
  exact cnt_bd (by omega)
theorem rr_run (h : LG W l) (h0 : 0 ≤ r) (h1 : r ≤ cN W l - 2) (h2 : pr W l r ≤ k) (h3 : k < pr W l (r + 1) ∨ r = cN W l - 2) : rr W l k = r := by
  unfold rr
  rw [cnt_congr (Q := fun q => q < r) (fun q h4 h5 => ?_), cnt_lt h0 h1]
  constructor
  · intro h6
    by_cases h7 : q < r
    · exact h7
    · have := pr_mono h (r := r + 1) (k := q + 1) (by omega) (by omega) (by omega)
      omega
  · intro h6
    have := pr_mono h (r := q + 1) (k := r) (by omega) (by omega) (by omega)
    show pr W l (q + 1) ≤ k
    omega
noncomputable def Dw (W : Int → Int) (l k : Int) : Int := wy W l (rr W l k)
noncomputable def Px (W : Int → Int) (l k : Int) : Int := cX W l (rr W l k) + (k - pr W l (rr W l k)) * dxI (Dw W l k)
noncomputable def Py (W : Int → Int) (l k : Int) : Int := cY W l (rr W l k) + (k - pr W l (rr W l k)) * dyI (Dw W l k)
noncomputable def Ps (W : Int → Int) (l k : Int) : Int := 40 * Py W l k + Px W l k
theorem D_run (h : LG W l) (h0 : 0 ≤ r) (h1 : r < cN W l - 1) (h2 : 0 ≤ j) (h3 : j < sp W l r) : Dw W l (pr W l r + j) = wy W l r := by
  unfold Dw
  rw [rr_run h h0 (by omega) (by omega) (Or.inl (by rw [pr_s h0]; omega))]
theorem P_run (h : LG W l) (h0 : 0 ≤ r) (h1 : r < cN W l - 1) (h2 : 0 ≤ j) (h3 : j ≤ sp W l r) : Px W l (pr W l r + j) = cX W l r + j * dxI (wy W l r) ∧ Py W l (pr W l r + j) = cY W l r + j * dyI (wy W l r) := by
  by_cases h4 : j < sp W l r ∨ r = cN W l - 2
  · have e : rr W l (pr W l r + j) = r := rr_run h h0 (by omega) (by omega) (by rw [pr_s h0]; omega)
    unfold Px Py Dw
    rw [e, show pr W l r + j - pr W l r = j by omega]
    exact ⟨rfl, rfl⟩
  · have e1 : pr W l r + j = pr W l (r + 1) := by rw [pr_s h0]; omega
    have e : rr W l (pr W l (r + 1)) = r + 1 := by
      refine rr_run h (by omega) (by omega) (by omega) (Or.inl ?_)
      rw [pr_s (show 0 ≤ r + 1 by omega)]
      have := sp_pos h (r := r + 1) (by omega) (by omega)
      omega
    have e2 : j = sp W l r := by omega
    unfold Px Py Dw
    rw [e1, e, Int.sub_self, Int.zero_mul, Int.zero_mul, Int.add_zero, Int.add_zero, e2]
    exact ⟨run_x h h0 h1, run_y h h0 h1⟩
/-- every step lies in a run -/
theorem run_of (h : LG W l) (h0 : 0 ≤ k) (h1 : k < len W l) : ∃ r j, 0 ≤ r ∧ r < cN W l - 1 ∧ 0 ≤ j ∧ j < sp W l r ∧ k = pr W l r + j := by
  have hN := h.1.1
  have key := int_ind_le (P := fun n => k < pr W l n → ∃ r j, 0 ≤ r ∧ r < cN W l - 1 ∧ 0 ≤ j ∧ j < sp W l r ∧ k = pr W l r + j) (N := cN W l - 1) (fun hc => by rw [pr_0] at hc; omega) (fun n h2 h3 ih h4 => by
    by_cases h5 : k < pr W l n
    · exact ih h5
    · rw [pr_s h2] at h4
      exact ⟨n, k - pr W l n, h2, h3, by omega, by omega, by omega⟩) (cN W l - 1) (by omega) (Int.le_refl _)
  exact key h1
theorem run_of2 (h : LG W l) (h0 : 0 ≤ k) (h1 : k ≤ len W l) : ∃ r j, 0 ≤ r ∧ r < cN W l - 1 ∧ 0 ≤ j ∧ j ≤ sp W l r ∧ k = pr W l r + j := by
  have hN := h.1.1
  by_cases h2 : k < len W l
  · obtain ⟨r, j, a1, a2, a3, a4, a5⟩ := run_of h h0 h2
    exact ⟨r, j, a1, a2, a3, by omega, a5⟩
  · have e : len W l = pr W l (cN W l - 2) + sp W l (cN W l - 2) := by
      unfold len
      rw [← pr_s (by omega)]
      congr 1
      omega
    have := sp_pos h (r := cN W l - 2) (by omega) (by omega)
    exact ⟨cN W l - 2, sp W l (cN W l - 2), by omega, by omega, by omega, by omega, by omega⟩
theorem seg {x y n j d : Int} (hd : -1 ≤ d ∧ d ≤ 1) (h0 : 0 ≤ j) (h1 : j ≤ n) (hx : 0 ≤ x ∧ x < 40) (hy : y = x + n * d) (hy2 : 0 ≤ y ∧ y < 40) : 0 ≤ x + j * d ∧ x + j * d < 40 := by
  have : d = -1 ∨ d = 0 ∨ d = 1 := by omega
  rcases this with rfl | rfl | rfl <;> omega
theorem P_in (h : LG W l) (h0 : 0 ≤ k) (h1 : k ≤ len W l) : (0 ≤ Px W l k ∧ Px W l k < 40) ∧ 0 ≤ Py W l k ∧ Py W l k < 40 := by
  obtain ⟨r, j, a1, a2, a3, a4, rfl⟩ := run_of2 h h0 h1
  have b1 := h.1.2.2.2 r a1 (by omega)
  have b2 := h.1.2.2.2 (r + 1) (by omega) (by omega)
  have e := P_run h a1 a2 a3 a4
  rw [e.1, e.2]
  exact ⟨seg (dxI_in _) a3 a4 b1.1 (run_x h a1 a2) b2.1, seg (dyI_in _) a3 a4 b1.2 (run_y h a1 a2) b2.2⟩
theorem Ps_in (h : LG W l) (h0 : 0 ≤ k) (h1 : k ≤ len W l) : 0 ≤ Ps W l k ∧ Ps W l k < 1600 := by
  have := P_in h h0 h1
  unfold Ps
  omega
theorem P_s (h : LG W l) (h0 : 0 ≤ k) (h1 : k < len W l) : Px W l (k + 1) = Px W l k + dxI (Dw W l k) ∧ Py W l (k + 1) = Py W l k + dyI (Dw W l k) := by
  obtain ⟨r, j, a1, a2, a3, a4, rfl⟩ := run_of h h0 h1
  have e := P_run h a1 a2 a3 (by omega)
  have e2 := P_run h a1 a2 (j := j + 1) (by omega) (by omega)
  rw [D_run h a1 a2 a3 a4, Int.add_assoc, e.1, e.2, e2.1, e2.2, Int.add_mul, Int.add_mul, Int.one_mul, Int.one_mul]
  omega
theorem Ps_s (h : LG W l) (h0 : 0 ≤ k) (h1 : k < len W l) : Ps W l (k + 1) = Ps W l k + (40 * dyI (Dw W l k) + dxI (Dw W l k)) := by
  have := P_s h h0 h1
  unfold Ps
  omega
theorem Ps_0 (h : LG W l) : Ps W l 0 = 40 * cY W l 0 + cX W l 0 := by
  have hN := h.1.1
  have := sp_pos h (r := 0) (by omega) (by omega)
  have e := P_run h (r := 0) (j := 0) (by omega) (by omega) (by omega) (by omega)
  rw [pr_0, Int.add_zero, Int.zero_mul, Int.zero_mul, Int.add_zero, Int.add_zero] at e
  unfold Ps
  rw [e.1, e.2]
theorem Dw_in (h : LG W l) (h0 : 0 ≤ k) (h1 : k < len W l) : 0 ≤ Dw W l k ∧ Dw W l k ≤ 7 := by
  obtain ⟨r, j, a1, a2, a3, a4, rfl⟩ := run_of h h0 h1
  rw [D_run h a1 a2 a3 a4]
  have := wy_le (W := W) (l := l) (r := r)
  have := h.2.1 r a1 a2
  omega
/-- steps to a station, its cell -/
def st (W : Int → Int) (l s : Int) : Int := s * len W l / (cT W l - 1)
theorem st_in (h : LG W l) (h0 : 0 ≤ k) (h1 : k < cT W l) : 0 ≤ st W l k ∧ st W l k ≤ len W l := by
  have h2 := h.1.2.1
  have h3 := len_bd h.1
  unfold st
  constructor
  · exact Int.ediv_nonneg (Int.mul_nonneg h0 h3.1) (by omega)
  · have : k * len W l ≤ (cT W l - 1) * len W l := Int.mul_le_mul_of_nonneg_right (by omega) h3.1
    calc k * len W l / (cT W l - 1) ≤ (cT W l - 1) * len W l / (cT W l - 1) := Int.ediv_le_ediv (by omega) this
      _ = len W l := Int.mul_ediv_cancel_left _ (by omega)
theorem st_0 : st W l 0 = 0 := by
  unfold st
  rw [Int.zero_mul, Int.zero_ediv]
theorem st_last (h : LG W l) : st W l (cT W l - 1) = len W l := by
  have h2 := h.1.2.1
  unfold st
  exact Int.mul_ediv_cancel_left _ (by omega)
theorem st_s (h : LG W l) (h0 : 0 ≤ k) : st W l k + 1 ≤ st W l (k + 1) := by
  have h2 := h.1.2.1
  have h3 := h.2.2
  unfold st
  rw [Int.add_mul, Int.one_mul]
  have : k * len W l / (cT W l - 1) + 1 = (k * len W l + 1 * (cT W l - 1)) / (cT W l - 1) := by
    rw [Int.add_mul_ediv_right _ _ (by omega)]
  rw [this]
  exact Int.ediv_le_ediv (by omega) (by omega)
theorem st_mono (h : LG W l) (h0 : 0 ≤ k) (h1 : k ≤ j) : st W l k + (j - k) ≤ st W l j := by
  have := int_ind_le (P := fun n => st W l k + n ≤ st W l (k + n)) (N := j - k) (by rw [Int.add_zero, Int.add_zero]; exact Int.le_refl _) (fun n h2 h3 ih => by
    have := st_s h (k := k + n) (by omega)
    rw [show k + (n + 1) = k + n + 1 by omega]
    omega) (j - k) (by omega) (Int.le_refl _)
  rw [show k + (j - k) = j by omega] at this
  exact this
noncomputable def sc (W : Int → Int) (l s : Int) : Int := Ps W l (st W l s)
theorem sc_in (h : LG W l) (h0 : 0 ≤ k) (h1 : k < cT W l) : 0 ≤ sc W l k ∧ sc W l k < 1600 := by
  have := st_in h h0 h1
  exact Ps_in h this.1 this.2
end GE
