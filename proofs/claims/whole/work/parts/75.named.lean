/-! names -/
section NQ
variable {z y : Nat} {g g' : XH} {w w' : Int64} {s s' s0 s1 s2 m m' m0 m1 m2 : CT} {G W W' V W1 row row' r0 nm lo lg sn f : Int → Int} {wd hg mt c i j l n p v t k x xx yy N q o to : Int} {a b : Nat} {h : XH}
variable {k r u : Int}
theorem iand31 (h : 0 ≤ u) : iand u 31 = u % 32 := by
  unfold iand
  rw [show (31 : Int).toNat = 2 ^ 5 - 1 from rfl, Nat.and_two_pow_sub_one_eq_mod]
  omega
theorem lett_bd : 0 ≤ lett v i ∧ lett v i < 32 := by
  unfold lett
  omega
theorem pw_25 : pw 25 = 33554432 := by decide
theorem pw_30 : pw 30 = 1073741824 := by decide
theorem lett_0 (h : 0 < v ∧ v < 1073741824) : lett v 0 = v / 33554432 := by
  unfold lett
  rw [show (25 : Int) - 5 * 0 = 25 from rfl, pw_25]
  omega
theorem C_letterOf (h0 : 0 ≤ v ∧ v < 2147483648) (hi0 : 0 ≤ i ∧ i < 6) : qD_letterOf (J v) (J i) h = rI (J (lett v i)) h := by
  have p1 := pw_pos (n := 25 - 5 * i)
  have p2 : 0 ≤ v / pw (25 - 5 * i) := Int.ediv_nonneg h0.1 (by omega)
  unfold qD_letterOf qD_shiftOf lett
  simp (disch := omega) only [J_l, J_neg, J_add, J_sub, J_mul, J_lt, J_le, J_eq, J_div2, J_rem2, J_shl1, J_orp, J_or, J_and, J_shr, J_ushr, J_max, J_min, J_abs, J_b0, ↓b0_ite, ↓b0_ite2, b0_ite, bI_r, bV_r, b01_ite, ite_true, ite_false, rZ_b, K_l, J_long, M_in, iand31]
/-- letters as far as they were seen -/
def LtOk (v i : Int) : Prop := (∀ j, 0 ≤ j → j < i → lett v j ≤ 26) ∧ (∀ j, 0 ≤ j → j + 1 < i → lett v j = 0 → lett v (j + 1) = 0) ∧ (0 < i → 1 ≤ lett v 0)
theorem LtOk_0 : LtOk v 0 := ⟨fun j h1 h2 => by omega, fun j h1 h2 => by omega, fun h1 => by omega⟩
theorem LtOk_6 (h0 : 0 < v ∧ v < 1073741824) : LtOk v 6 ↔ NmOk v := ⟨fun ⟨h1, h2, h3⟩ => ⟨h0, h3 (by omega), h1, fun i i1 i2 => h2 i i1 (by omega)⟩, fun ⟨_, h1, h2, h3⟩ => ⟨h2, fun j j1 j2 => h3 j j1 (by omega), fun _ => h1⟩⟩
theorem LtOk_le (h : LtOk v k) (h1 : i ≤ k) (h0 : 0 ≤ i) : LtOk v i := ⟨fun j j1 j2 => h.1 j j1 (by omega), fun j j1 j2 => h.2.1 j j1 (by omega), fun q => h.2.2 (by omega)⟩
theorem LtOk_s (hi0 : 0 ≤ i) (h : LtOk v i) (h1 : lett v i ≤ 26) (h2 : 0 < i → lett v (i - 1) = 0 → lett v i = 0) (h3 : i = 0 → 1 ≤ lett v 0) : LtOk v (i + 1) := ⟨fun j j1 j2 => by
    by_cases e : j = i
    · rw [e]; exact h1
    · exact h.1 j j1 (by omega), fun j j1 j2 j3 => by
    by_cases e : j + 1 = i
    · rw [e]
      exact h2 (by omega) (by rw [show i - 1 = j by omega]; exact j3)
    · exact h.2.1 j j1 (by omega) j3, fun q => by
    by_cases e : i = 0
    · exact h3 e
    · exact h.2.2 (by omega)⟩
theorem C_isName (hv : -2147483648 ≤ v ∧ v < 2147483648) : qD_isName (J v) h = rI (J (b01 (NmOk v))) h := by
  have p25 := pw_25
  have p30 := pw_30
  unfold qD_isName
  simp (disch := omega) only [J_l, J_neg, J_add, J_sub, J_mul, J_lt, J_le, J_eq, J_div2, J_rem2, J_shl1, J_orp, J_or, J_and, J_shr, J_ushr, J_max, J_min, J_abs, J_b0, ↓b0_ite, ↓b0_ite2, b0_ite, bI_r, bV_r, b01_ite, ite_true, ite_false, rZ_b, K_l, J_long, M_in, p30]
  by_cases h0 : 0 < v ∧ v < 1073741824
  · rw [if_pos h0.1, if_pos (by omega)]
    have key := loopI (S := Int) (fun N i => qD_isName_17 N (J v) (J (b01 (0 < i ∧ lett v (i - 1) = 0))) (J i) h) (fun X => X = rI (J (b01 (NmOk v))) h) (fun i => (0 ≤ i ∧ i ≤ 6) ∧ LtOk v i) (fun i => 6 - i) (by intro p hp; omega) (fun N i hi0 ih => by
      obtain ⟨i1, i2⟩ := hi0
      show qD_isName_17_b (qD_isName_17 N) (J v) (J (b01 (0 < i ∧ lett v (i - 1) = 0))) (J i) h = _
      unfold qD_isName_17_b
      simp (disch := omega) only [J_l, J_neg, J_add, J_sub, J_mul, J_lt, J_le, J_eq, J_div2, J_rem2, J_shl1, J_orp, J_or, J_and, J_shr, J_ushr, J_max, J_min, J_abs, J_b0, ↓b0_ite, ↓b0_ite2, b0_ite, bI_r, bV_r, b01_ite, ite_true, ite_false, rZ_b, K_l, J_long, M_in]
      by_cases hc : i < 6
      · have lb := lett_bd (v := v) (i := i)
        rw [if_pos hc]
        simp (disch := omega) only [J_l, J_neg, J_add, J_sub, J_mul, J_lt, J_le, J_eq, J_div2, J_rem2, J_shl1, J_orp, J_or, J_and, J_shr, J_ushr, J_max, J_min, J_abs, J_b0, ↓b0_ite, ↓b0_ite2, b0_ite, bI_r, bV_r, b01_ite, ite_true, ite_false, rZ_b, K_l, J_long, M_in, C_letterOf]
        have no : ¬LtOk v (i + 1) → rI (J 0) h = rI (J (b01 (NmOk v))) h := fun hn => by
          rw [b01_neg (fun q => hn (LtOk_le ((LtOk_6 h0).mpr q) (by omega) (by omega)))]
        have yes : LtOk v (i + 1) → qD_isName_53 (qD_isName_17 N) (J v) (J i) (J (lett v i)) h = rI (J (b01 (NmOk v))) h := fun hn => by
          have := ih (i + 1) ⟨by omega, hn⟩ (by omega)
          change qD_isName_17 N (J v) (J (b01 (0 < i + 1 ∧ lett v (i + 1 - 1) = 0))) (J (i + 1)) h = _ at this
          rw [show i + 1 - 1 = i by omega] at this
          unfold qD_isName_53
          simp (disch := omega) only [J_l, J_neg, J_add, J_sub, J_mul, J_lt, J_le, J_eq, J_div2, J_rem2, J_shl1, J_orp, J_or, J_and, J_shr, J_ushr, J_max, J_min, J_abs, J_b0, ↓b0_ite, ↓b0_ite2, b0_ite, bI_r, bV_r, b01_ite, ite_true, ite_false, rZ_b, K_l, J_long, M_in]
          by_cases e : lett v i = 0
          · rw [b01_pos ⟨by omega, e⟩] at this
            rw [if_pos e]
            exact this
          · rw [b01_neg (fun q => e q.2)] at this
            rw [if_neg e]
            exact this
        have mid : (0 < i → lett v (i - 1) = 0 → lett v i = 0) → lett v i ≤ 26 → qD_isName_43 (qD_isName_17 N) (J v) (J i) (J (lett v i)) h = rI (J (b01 (NmOk v))) h := fun q1 q2 => by
          unfold qD_isName_43
          simp (disch := omega) only [J_l, J_neg, J_add, J_sub, J_mul, J_lt, J_le, J_eq, J_div2, J_rem2, J_shl1, J_orp, J_or, J_and, J_shr, J_ushr, J_max, J_min, J_abs, J_b0, ↓b0_ite, ↓b0_ite2, b0_ite, bI_r, bV_r, b01_ite, ite_true, ite_false, rZ_b, K_l, J_long, M_in]
          by_cases e1 : i = 0
          · rw [if_pos e1]
            by_cases e2 : lett v i = 0
            · rw [if_pos e2]
              exact no (fun q => by
                have := q.2.2 (by omega)
                rw [e1] at e2
                omega)
            · rw [if_neg e2]
              exact yes (LtOk_s i1.1 i2 q2 q1 (fun _ => by rw [e1] at e2 lb; omega))
          · rw [if_neg e1]
            exact yes (LtOk_s i1.1 i2 q2 q1 (fun e => absurd e e1))
        by_cases h2 : 26 < lett v i
        · rw [if_pos h2]
          exact no (fun q => by
            have := q.1 i i1.1 (by omega)
            omega)
        · rw [if_neg h2]
          by_cases h3 : 0 < i ∧ lett v (i - 1) = 0
          · rw [if_pos h3]
            by_cases h4 : lett v i = 0
            · rw [if_pos h4]
              exact mid (fun _ _ => h4) (by omega)
            · rw [if_neg h4]
              exact no (fun q => by
                have := q.2.1 (i - 1) (by omega) (by omega) h3.2
                rw [show i - 1 + 1 = i by omega] at this
                exact h4 this)
          · rw [if_neg h3]
            exact mid (fun q1 q2 => absurd ⟨q1, q2⟩ h3) (by omega)
      · rw [if_neg hc]
        rw [b01_pos ((LtOk_6 h0).mp (by rw [show (6 : Int) = i by omega]; exact i2))]) 0 ⟨by omega, LtOk_0⟩ (by omega)
    rw [b01_neg (by omega)] at key
    exact key
  · rw [b01_neg (fun q => h0 q.1)]
    by_cases h1 : 0 < v
    · rw [if_pos h1, if_neg (by omega)]
    · rw [if_neg h1]
theorem rZ_0 : rZ (J 0) h = rI (J 0) h := by
  have := rZ_b (P := False) (h := h)
  rw [b01_neg (fun q => q)] at this
  exact this
theorem rZ_1 : rZ (J 1) h = rI (J 1) h := by
  have := rZ_b (P := True) (h := h)
  rw [b01_pos trivial] at this
  exact this
theorem M_name_no {x o : Int32} (hi0 : 0 ≤ i ∧ i ≤ 6) : ∀ N : Nat, 8 - i < (N : Int) → qM_isName_25 N x o (J 0) (J (25 - 5 * i)) h = rI (J 0) h := by
  intro N
  induction N generalizing i o with
  | zero => intro hN; omega
  | succ N ih =>
    intro hN
    show qM_isName_25_b (qM_isName_25 N) x o (J 0) (J (25 - 5 * i)) h = _
    unfold qM_isName_25_b qM_isName_61 qM_isName_62 qM_isName_72
    by_cases hc : i < 6
    · have step : ∀ u : Int32, qM_isName_25 N x u (J 0) (J (25 - 5 * i) + (-5 : Int32)) h = rI (J 0) h := fun u => by
        rw [show J (25 - 5 * i) + (-5 : Int32) = J (25 - 5 * (i + 1)) by
          simp (disch := omega) only [J_l, J_neg, J_add, J_sub, J_mul, J_lt, J_le, J_eq, J_div2, J_rem2, J_shl1, J_orp, J_or, J_and, J_shr, J_ushr, J_max, J_min, J_abs, J_b0, ↓b0_ite, ↓b0_ite2, b0_ite, bI_r, bV_r, b01_ite, ite_true, ite_false, rZ_b, K_l, J_long, M_in]
          rw [show 25 - 5 * i + -5 = 25 - 5 * (i + 1) by omega]]
        exact ih (by omega) (by omega)
      have e0 : (0 : Int32) = J 0 := rfl
      rw [if_neg (by simp (disch := omega) only [J_l, J_neg, J_add, J_sub, J_mul, J_lt, J_le, J_eq, J_div2, J_rem2, J_shl1, J_orp, J_or, J_and, J_shr, J_ushr, J_max, J_min, J_abs, J_b0, ↓b0_ite, ↓b0_ite2, b0_ite, bI_r, bV_r, b01_ite, ite_true, ite_false, rZ_b, K_l, J_long, M_in]; omega), if_pos e0.symm, e0]
      split
      · split <;> exact step _
      · exact step _
    · rw [if_pos (by simp (disch := omega) only [J_l, J_neg, J_add, J_sub, J_mul, J_lt, J_le, J_eq, J_div2, J_rem2, J_shl1, J_orp, J_or, J_and, J_shr, J_ushr, J_max, J_min, J_abs, J_b0, ↓b0_ite, ↓b0_ite2, b0_ite, bI_r, bV_r, b01_ite, ite_true, ite_false, rZ_b, K_l, J_long, M_in]; omega), rZ_0]
theorem M_isName (hv : -2147483648 ≤ v ∧ v < 2147483648) : qM_isName (J v) h = rI (J (b01 (NmOk v))) h := by
  have p25 := pw_25
  have p30 := pw_30
  have bad : ∀ o : Int32, ¬NmOk v → qM_isName_25 LF (J v) o (J 0) (J 25) h = rI (J (b01 (NmOk v))) h := fun o hn => by
    rw [b01_neg hn]
    have := M_name_no (h := h) (x := J v) (o := o) (i := 0) (by omega) LF (by show (8 : Int) - 0 < ((20000 : Nat) : Int); omega)
    rw [show (25 : Int) - 5 * 0 = 25 from rfl] at this
    exact this
  unfold qM_isName
  simp (disch := omega) only [J_l, J_neg, J_add, J_sub, J_mul, J_lt, J_le, J_eq, J_div2, J_rem2, J_shl1, J_orp, J_or, J_and, J_shr, J_ushr, J_max, J_min, J_abs, J_b0, ↓b0_ite, ↓b0_ite2, b0_ite, bI_r, bV_r, b01_ite, ite_true, ite_false, rZ_b, K_l, J_long, M_in, p25, p30]
  by_cases h0 : 0 < v / 33554432 ∧ v / 1073741824 = 0
  · rw [if_pos h0.1, if_pos h0.2]
    have h1 : 0 < v ∧ v < 1073741824 := by omega
    have l0 : 1 ≤ lett v 0 := by rw [lett_0 h1]; omega
    have main : ∀ (N : Nat) (i : Int), 8 - i < (N : Int) → ((0 ≤ i ∧ i ≤ 6) ∧ LtOk v i) → qM_isName_25 N (J v) (J (b01 (0 < i ∧ lett v (i - 1) = 0))) (J 1) (J (25 - 5 * i)) h = rI (J (b01 (NmOk v))) h := fun N => by
      induction N with
      | zero => intro i hN hq; omega
      | succ N ih =>
      intro i hN hi0
      obtain ⟨i1, i2⟩ := hi0
      show qM_isName_25_b (qM_isName_25 N) (J v) (J (b01 (0 < i ∧ lett v (i - 1) = 0))) (J 1) (J (25 - 5 * i)) h = _
      unfold qM_isName_25_b qM_isName_61 qM_isName_57
      by_cases hc : i < 6
      · have lb := lett_bd (v := v) (i := i)
        have p2 : 0 ≤ v / pw (25 - 5 * i) := Int.ediv_nonneg (by omega) (by have := pw_pos (n := 25 - 5 * i); omega)
        have eL : iand (v / pw (25 - 5 * i)) 31 = lett v i := iand31 p2
        have no : ∀ o : Int32, ¬LtOk v (i + 1) → qM_isName_25 N (J v) o (J 0) (J (25 - 5 * i + -5)) h = rI (J (b01 (NmOk v))) h := fun o hn => by
          rw [b01_neg (fun q => hn (LtOk_le ((LtOk_6 h1).mpr q) (by omega) (by omega))), show 25 - 5 * i + -5 = 25 - 5 * (i + 1) by omega]
          exact M_name_no (by omega) _ (by omega)
        have no62 : ∀ o : Int32, ¬LtOk v (i + 1) → qM_isName_62 (qM_isName_25 N) (J v) o (J (25 - 5 * i)) (J (lett v i)) (J 0) h = rI (J (b01 (NmOk v))) h := fun o hn => by
          unfold qM_isName_62 qM_isName_72
          simp (disch := omega) only [J_l, J_neg, J_add, J_sub, J_mul, J_lt, J_le, J_eq, J_div2, J_rem2, J_shl1, J_orp, J_or, J_and, J_shr, J_ushr, J_max, J_min, J_abs, J_b0, ↓b0_ite, ↓b0_ite2, b0_ite, bI_r, bV_r, b01_ite, ite_true, ite_false, rZ_b, K_l, J_long, M_in]
          split
          · split <;> exact no _ hn
          · exact no _ hn
        have yes : LtOk v (i + 1) → qM_isName_62 (qM_isName_25 N) (J v) (J (b01 (0 < i ∧ lett v (i - 1) = 0))) (J (25 - 5 * i)) (J (lett v i)) (J 1) h = rI (J (b01 (NmOk v))) h := fun hn => by
          have := ih (i + 1) (by omega) ⟨by omega, hn⟩
          change qM_isName_25 N (J v) (J (b01 (0 < i + 1 ∧ lett v (i + 1 - 1) = 0))) (J 1) (J (25 - 5 * (i + 1))) h = _ at this
          rw [show i + 1 - 1 = i by omega, show 25 - 5 * (i + 1) = 25 - 5 * i + -5 by omega] at this
          unfold qM_isName_62 qM_isName_72
          simp (disch := omega) only [J_l, J_neg, J_add, J_sub, J_mul, J_lt, J_le, J_eq, J_div2, J_rem2, J_shl1, J_orp, J_or, J_and, J_shr, J_ushr, J_max, J_min, J_abs, J_b0, ↓b0_ite, ↓b0_ite2, b0_ite, bI_r, bV_r, b01_ite, ite_true, ite_false, rZ_b, K_l, J_long, M_in]
          by_cases e : lett v i = 0
          · rw [b01_pos ⟨by omega, e⟩] at this
            (repeat' split) <;> first | exact this | (exfalso; omega)
          · rw [b01_neg (fun q => e q.2)] at this
            have e2 : ¬(0 < i ∧ lett v (i - 1) = 0) := fun q => by
              have := hn.2.1 (i - 1) (by omega) (by omega) q.2
              rw [show i - 1 + 1 = i by omega] at this
              exact e this
            rw [if_neg e2, if_neg e]
            exact this
        simp (disch := omega) only [J_l, J_neg, J_add, J_sub, J_mul, J_lt, J_le, J_eq, J_div2, J_rem2, J_shl1, J_orp, J_or, J_and, J_shr, J_ushr, J_max, J_min, J_abs, J_b0, ↓b0_ite, ↓b0_ite2, b0_ite, bI_r, bV_r, b01_ite, ite_true, ite_false, rZ_b, K_l, J_long, M_in, eL]
        rw [if_neg (by omega)]
        by_cases h2 : lett v i < 27
        · rw [if_pos h2]
          by_cases h3 : 0 < i ∧ lett v (i - 1) = 0
          · rw [if_pos h3]
            by_cases h4 : 0 < lett v i
            · rw [if_pos h4]
              exact no62 _ (fun q => by
                have := q.2.1 (i - 1) (by omega) (by omega) h3.2
                rw [show i - 1 + 1 = i by omega] at this
                omega)
            · rw [if_neg h4]
              exact yes (LtOk_s i1.1 i2 (by omega) (fun _ _ => by omega) (fun _ => l0))
          · rw [if_neg h3]
            exact yes (LtOk_s i1.1 i2 (by omega) (fun q1 q2 => absurd ⟨q1, q2⟩ h3) (fun _ => l0))
        · rw [if_neg h2]
          exact no62 _ (fun q => by
            have := q.1 i i1.1 (by omega)
            omega)
      · simp (disch := omega) only [J_l, J_neg, J_add, J_sub, J_mul, J_lt, J_le, J_eq, J_div2, J_rem2, J_shl1, J_orp, J_or, J_and, J_shr, J_ushr, J_max, J_min, J_abs, J_b0, ↓b0_ite, ↓b0_ite2, b0_ite, bI_r, bV_r, b01_ite, ite_true, ite_false, rZ_b, K_l, J_long, M_in]
        rw [if_pos (by omega), rZ_1, b01_pos ((LtOk_6 h1).mp (by rw [show (6 : Int) = i by omega]; exact i2))]
    have key := main LF 0 (by show (8 : Int) - 0 < ((20000 : Nat) : Int); omega) ⟨by omega, LtOk_0⟩
    rw [b01_neg (by omega), show (25 : Int) - 5 * 0 = 25 from rfl] at key
    exact key
  · have hn : ¬NmOk v := fun q => h0 (by
      have := q.1
      have l0 := q.2.1
      rw [lett_0 this] at l0
      omega)
    by_cases h1 : 0 < v / 33554432
    · rw [if_pos h1, if_neg (by omega)]
      exact bad _ hn
    · rw [if_neg h1]
      exact bad _ hn
/-- the first line of a name, so far none -/
def FN (nm : Int → Int) (n v : Int) (r e : Int) : Prop := (r = e ∧ ∀ i, 0 ≤ i → i < n → nm i ≠ v) ∨ ((0 ≤ r ∧ r < n) ∧ nm r = v ∧ ∀ i, 0 ≤ i → i < r → nm i ≠ v)
theorem FN_uniq {e e' r' : Int} (h1 : FN nm n v r e) (h2 : FN nm n v r' e') : (r = e ∧ r' = e') ∨ (0 ≤ r ∧ r = r') := by
  rcases h1 with ⟨a1, a2⟩ | ⟨a1, a2, a3⟩
  · rcases h2 with ⟨c1, c2⟩ | ⟨c1, c2, c3⟩
    · exact Or.inl ⟨a1, c1⟩
    · exact absurd c2 (a2 r' c1.1 c1.2)
  · rcases h2 with ⟨c1, c2⟩ | ⟨c1, c2, c3⟩
    · exact absurd a2 (c2 r a1.1 a1.2)
    · refine Or.inr ⟨a1.1, ?_⟩
      by_cases h : r < r'
      · exact absurd a2 (c3 r a1.1 h)
      · by_cases h' : r' < r
        · exact absurd c2 (a3 r' c1.1 h')
        · omega
theorem C_lineNamed (hP : PlV s 6 wd hg mt n nm W) (hn : 0 ≤ n ∧ n ≤ 8) (hN : ∀ l, 0 ≤ l → l < n → NmOk (nm l)) (hv : -2147483648 ≤ v ∧ v < 2147483648) : ∃ r, qP_lineNamed (z + 6) (J v) (hi z TD g w s) = rI (J r) (hi z TD g w s) ∧ FN nm n v r (-1) := by
  have h3 : s 6 3 = n := hP.2.2.2.1
  refine loopI (S := Int) (fun N i => qP_lineNamed_2 N (z + 6) (J v) (J i) (hi z TD g w s)) (fun X => ∃ r, X = rI (J r) (hi z TD g w s) ∧ FN nm n v r (-1)) (fun i => (0 ≤ i ∧ i ≤ n) ∧ ∀ j, 0 ≤ j → j < i → nm j ≠ v) (fun i => n - i) (by intro p hp; omega) (fun N i hi0 ih => ?_) 0 ⟨by omega, fun j j1 j2 => by omega⟩ (by omega)
  obtain ⟨i1, i2⟩ := hi0
  show ∃ r, qP_lineNamed_2_b (qP_lineNamed_2 N) (z + 6) (J v) (J i) (hi z TD g w s) = _ ∧ _
  unfold qP_lineNamed_2_b
  simp (disch := first | assumption | omega) only [↓gR_D0, ↓gR_D1, ↓gR_D2, ↓gR_D3, ↓gR_D4, ↓gR_D5, ↓gR_D6, ↓gR_D7, ↓gR_D8, ↓gR_D9, ↓gR_D10, ↓gI_D11, ↓pV_D11, ↓isO_D, ↓gI_T0, ↓pV_T0, ↓gR_T1, ↓isO_T, ↓rd_T2, ↓wr_T2, ↓gI_U0, ↓pV_U0, ↓gR_U1, ↓isO_U, ↓rd_U2, ↓wr_U2, ↓gI_Ps0, ↓pV_Ps0, ↓gI_Ps1, ↓pV_Ps1, ↓gI_Ps2, ↓pV_Ps2, ↓gI_Ps3, ↓pV_Ps3, ↓gI_Ps4, ↓pV_Ps4, ↓isO_Ps, ↓gI_N0, ↓pV_N0, ↓gI_N1, ↓pV_N1, ↓gI_N2, ↓pV_N2, ↓gI_N3, ↓pV_N3, ↓gR_N4, ↓gR_N5, ↓isO_N, ↓rd_NL, ↓gI_NB0, ↓pV_NB0, ↓gR_NB1, ↓gR_NB2, ↓isO_NB, ↓rd_NC, ↓wr_NC, ↓ln_NC, ↓rd_NP, ↓wr_NP, ↓ln_NP, ↓gI_V0, ↓pV_V0, ↓gI_V1, ↓pV_V1, ↓gI_V2, ↓pV_V2, ↓gI_V3, ↓pV_V3, ↓gR_V4, ↓gR_V5, ↓isO_V, ↓rd_VL, ↓gI_VB0, ↓pV_VB0, ↓gR_VB1, ↓gR_VB2, ↓isO_VB, ↓rd_VC, ↓wr_VC, ↓ln_VC, ↓rd_VP, ↓wr_VP, ↓ln_VP, ↓rd_SL, ↓rd_KP, ↓wr_KP, ↓gI_H0, ↓pV_H0, ↓gI_H1, ↓pV_H1, ↓gR_H2, ↓isO_H, ↓rd_HP, ↓gI_B0, ↓pV_B0, ↓gI_B1, ↓pV_B1, ↓gR_B2, ↓gR_B3, ↓gR_B4, ↓gR_B5, ↓gR_B6, ↓gR_B7, ↓gR_B8, ↓isO_B, ↓rd_B301, ↓wr_B301, ↓ln_B301, ↓rd_B302, ↓wr_B302, ↓ln_B302, ↓rd_B303, ↓wr_B303, ↓ln_B303, ↓rd_B304, ↓wr_B304, ↓ln_B304, ↓rd_B305, ↓wr_B305, ↓ln_B305, ↓rd_B306, ↓wr_B306, ↓ln_B306, ↓rd_B307, ↓wr_B307, ↓ln_B307, ↓gR_Tv, ↓isO_Tv, ↓rd_Tv9, ↓wr_Tv9, ↓ln_Tv9, pV_D11, pV_T0, rd_T2, wr_T2, pV_U0, rd_U2, wr_U2, pV_Ps0, pV_Ps1, pV_Ps2, pV_Ps3, pV_Ps4, pV_N0, pV_N1, pV_N2, pV_N3, rd_NL, pV_NB0, rd_NC, wr_NC, rd_NP, wr_NP, pV_V0, pV_V1, pV_V2, pV_V3, rd_VL, pV_VB0, rd_VC, wr_VC, rd_VP, wr_VP, rd_SL, rd_KP, wr_KP, pV_H0, pV_H1, rd_HP, pV_B0, pV_B1, rd_B301, wr_B301, rd_B302, wr_B302, rd_B303, wr_B303, rd_B304, wr_B304, rd_B305, wr_B305, rd_B306, wr_B306, rd_B307, wr_B307, rd_Tv9, wr_Tv9, J_l, J_neg, J_add, J_sub, J_mul, J_lt, J_le, J_eq, J_div2, J_rem2, J_shl1, J_orp, J_or, J_and, J_shr, J_ushr, J_max, J_min, J_abs, J_b0, ↓b0_ite, ↓b0_ite2, b0_ite, bI_r, bV_r, b01_ite, ite_true, ite_false, rZ_b, K_l, J_long, M_in, h3]
  by_cases hc : i < n
  · have e := (hP.2.2.2.2.1 i i1.1 hc).2
    have b := (hN i i1.1 hc).1
    have hL := isLn_now (l := i) (by omega)
    rw [show 6 + 5 + 3 * i.toNat = 11 + 3 * i.toNat by omega] at e
    rw [if_pos hc]
    simp (disch := first | assumption | omega) only [↓gR_D0, ↓gR_D1, ↓gR_D2, ↓gR_D3, ↓gR_D4, ↓gR_D5, ↓gR_D6, ↓gR_D7, ↓gR_D8, ↓gR_D9, ↓gR_D10, ↓gI_D11, ↓pV_D11, ↓isO_D, ↓gI_T0, ↓pV_T0, ↓gR_T1, ↓isO_T, ↓rd_T2, ↓wr_T2, ↓gI_U0, ↓pV_U0, ↓gR_U1, ↓isO_U, ↓rd_U2, ↓wr_U2, ↓gI_Ps0, ↓pV_Ps0, ↓gI_Ps1, ↓pV_Ps1, ↓gI_Ps2, ↓pV_Ps2, ↓gI_Ps3, ↓pV_Ps3, ↓gI_Ps4, ↓pV_Ps4, ↓isO_Ps, ↓gI_N0, ↓pV_N0, ↓gI_N1, ↓pV_N1, ↓gI_N2, ↓pV_N2, ↓gI_N3, ↓pV_N3, ↓gR_N4, ↓gR_N5, ↓isO_N, ↓rd_NL, ↓gI_NB0, ↓pV_NB0, ↓gR_NB1, ↓gR_NB2, ↓isO_NB, ↓rd_NC, ↓wr_NC, ↓ln_NC, ↓rd_NP, ↓wr_NP, ↓ln_NP, ↓gI_V0, ↓pV_V0, ↓gI_V1, ↓pV_V1, ↓gI_V2, ↓pV_V2, ↓gI_V3, ↓pV_V3, ↓gR_V4, ↓gR_V5, ↓isO_V, ↓rd_VL, ↓gI_VB0, ↓pV_VB0, ↓gR_VB1, ↓gR_VB2, ↓isO_VB, ↓rd_VC, ↓wr_VC, ↓ln_VC, ↓rd_VP, ↓wr_VP, ↓ln_VP, ↓rd_SL, ↓rd_KP, ↓wr_KP, ↓gI_H0, ↓pV_H0, ↓gI_H1, ↓pV_H1, ↓gR_H2, ↓isO_H, ↓rd_HP, ↓gI_B0, ↓pV_B0, ↓gI_B1, ↓pV_B1, ↓gR_B2, ↓gR_B3, ↓gR_B4, ↓gR_B5, ↓gR_B6, ↓gR_B7, ↓gR_B8, ↓isO_B, ↓rd_B301, ↓wr_B301, ↓ln_B301, ↓rd_B302, ↓wr_B302, ↓ln_B302, ↓rd_B303, ↓wr_B303, ↓ln_B303, ↓rd_B304, ↓wr_B304, ↓ln_B304, ↓rd_B305, ↓wr_B305, ↓ln_B305, ↓rd_B306, ↓wr_B306, ↓ln_B306, ↓rd_B307, ↓wr_B307, ↓ln_B307, ↓gR_Tv, ↓isO_Tv, ↓rd_Tv9, ↓wr_Tv9, ↓ln_Tv9, pV_D11, pV_T0, rd_T2, wr_T2, pV_U0, rd_U2, wr_U2, pV_Ps0, pV_Ps1, pV_Ps2, pV_Ps3, pV_Ps4, pV_N0, pV_N1, pV_N2, pV_N3, rd_NL, pV_NB0, rd_NC, wr_NC, rd_NP, wr_NP, pV_V0, pV_V1, pV_V2, pV_V3, rd_VL, pV_VB0, rd_VC, wr_VC, rd_VP, wr_VP, rd_SL, rd_KP, wr_KP, pV_H0, pV_H1, rd_HP, pV_B0, pV_B1, rd_B301, wr_B301, rd_B302, wr_B302, rd_B303, wr_B303, rd_B304, wr_B304, rd_B305, wr_B305, rd_B306, wr_B306, rd_B307, wr_B307, rd_Tv9, wr_Tv9, ↓isO_L, ↓gI_L0, ↓pV_L0, ↓gI_L1, ↓pV_L1, ↓gI_L2, ↓pV_L2, ↓gI_L3, ↓pV_L3, ↓gR_L4, ↓rd_L4, ↓wr_L4, ↓gR_L5, ↓rd_L5, ↓wr_L5, pV_L0, pV_L1, pV_L2, pV_L3, rd_L4, wr_L4, rd_L5, wr_L5, J_l, J_neg, J_add, J_sub, J_mul, J_lt, J_le, J_eq, J_div2, J_rem2, J_shl1, J_orp, J_or, J_and, J_shr, J_ushr, J_max, J_min, J_abs, J_b0, ↓b0_ite, ↓b0_ite2, b0_ite, bI_r, bV_r, b01_ite, ite_true, ite_false, rZ_b, K_l, J_long, M_in, e]
    by_cases h1 : nm i = v
    · rw [if_pos h1]
      exact ⟨i, rfl, Or.inr ⟨⟨i1.1, hc⟩, h1, i2⟩⟩
    · rw [if_neg h1]
      exact ih (i + 1) ⟨by omega, fun j j1 j2 => by
        by_cases e : j = i
        · rw [e]; exact h1
        · exact i2 j j1 (by omega)⟩ (by omega)
  · rw [if_neg hc]
    exact ⟨-1, rfl, Or.inl ⟨rfl, fun j j1 j2 => i2 j j1 (by omega)⟩⟩
theorem M_named (hn : 0 ≤ m 0 6 ∧ m 0 6 ≤ 8) (hN : ∀ l, 0 ≤ l → l < m 0 6 → NmOk (m 2 l)) (hv : -2147483648 ≤ v ∧ v < 2147483648) : ∃ r, qM_named_11 LF y (J v) 0 (hi y TM g w m) = rI (J r) (hi y TM g w m) ∧ FN (m 2) (m 0 6) v r (-2) := by
  refine loopI (S := Int) (fun N i => qM_named_11 N y (J v) (J i) (hi y TM g w m)) (fun X => ∃ r, X = rI (J r) (hi y TM g w m) ∧ FN (m 2) (m 0 6) v r (-2)) (fun i => (0 ≤ i ∧ i ≤ m 0 6) ∧ ∀ j, 0 ≤ j → j < i → m 2 j ≠ v) (fun i => m 0 6 - i) (by intro p hp; omega) (fun N i hi0 ih => ?_) 0 ⟨by omega, fun j j1 j2 => by omega⟩ (by omega)
  obtain ⟨i1, i2⟩ := hi0
  show ∃ r, qM_named_11_b (qM_named_11 N) y (J v) (J i) (hi y TM g w m) = _ ∧ _
  unfold qM_named_11_b
  simp (disch := first | assumption | omega) only [↓isO_M, ↓gL_H, ↓pL_H, ↓gI_M1, ↓gI_M2, ↓gI_M3, ↓gI_M4, ↓gI_M5, ↓gI_M6, ↓gI_M13, ↓gI_M22, ↓gI_M23, ↓gI_M24, ↓gI_M25, ↓gI_M27, ↓gI_M28, ↓gI_M29, ↓gI_M30, ↓gI_M31, ↓gI_M32, ↓gI_M33, ↓gI_M34, ↓gI_M35, ↓gI_M40, ↓gI_M41, ↓gI_M42, ↓gI_M43, ↓pV_M1, ↓pV_M2, ↓pV_M3, ↓pV_M4, ↓pV_M5, ↓pV_M6, ↓pV_M13, ↓pV_M22, ↓pV_M23, ↓pV_M24, ↓pV_M25, ↓pV_M27, ↓pV_M28, ↓pV_M29, ↓pV_M30, ↓pV_M31, ↓pV_M32, ↓pV_M33, ↓pV_M34, ↓pV_M35, ↓pV_M40, ↓pV_M41, ↓pV_M42, ↓pV_M43, ↓gR_M0, ↓gR_M7, ↓gR_M8, ↓gR_M9, ↓gR_M10, ↓gR_M11, ↓gR_M12, ↓gR_M14, ↓gR_M15, ↓gR_M16, ↓gR_M17, ↓gR_M18, ↓gR_M19, ↓gR_M20, ↓gR_M21, ↓gR_M36, ↓gR_M37, ↓gR_M38, ↓gR_M39, ↓rd_M1, ↓rd_M2, ↓rd_M3, ↓rd_M4, ↓rd_M5, ↓rd_M6, ↓rd_M7, ↓rd_M8, ↓rd_M9, ↓rd_M10, ↓rd_M11, ↓rd_M12, ↓rd_M13, ↓rd_M14, ↓rd_M15, ↓rd_M16, ↓rd_M17, ↓rd_M18, ↓rd_M19, ↓wr_M1, ↓wr_M2, ↓wr_M3, ↓wr_M4, ↓wr_M5, ↓wr_M6, ↓wr_M7, ↓wr_M8, ↓wr_M9, ↓wr_M10, ↓wr_M11, ↓wr_M12, ↓wr_M13, ↓wr_M14, ↓wr_M15, ↓wr_M16, ↓wr_M17, ↓wr_M18, ↓wr_M19, pL_H, pV_M1, pV_M2, pV_M3, pV_M4, pV_M5, pV_M6, pV_M13, pV_M22, pV_M23, pV_M24, pV_M25, pV_M27, pV_M28, pV_M29, pV_M30, pV_M31, pV_M32, pV_M33, pV_M34, pV_M35, pV_M40, pV_M41, pV_M42, pV_M43, rd_M1, rd_M2, rd_M3, rd_M4, rd_M5, rd_M6, rd_M7, rd_M8, rd_M9, rd_M10, rd_M11, rd_M12, rd_M13, rd_M14, rd_M15, rd_M16, rd_M17, rd_M18, rd_M19, wr_M1, wr_M2, wr_M3, wr_M4, wr_M5, wr_M6, wr_M7, wr_M8, wr_M9, wr_M10, wr_M11, wr_M12, wr_M13, wr_M14, wr_M15, wr_M16, wr_M17, wr_M18, wr_M19, J_l, J_neg, J_add, J_sub, J_mul, J_lt, J_le, J_eq, J_div2, J_rem2, J_shl1, J_orp, J_or, J_and, J_shr, J_ushr, J_max, J_min, J_abs, J_b0, ↓b0_ite, ↓b0_ite2, b0_ite, bI_r, bV_r, b01_ite, ite_true, ite_false, rZ_b, K_l, J_long, M_in]
  by_cases hc : i < m 0 6
  · have b := (hN i i1.1 hc).1
    rw [if_pos hc]
    simp (disch := first | assumption | omega) only [↓isO_M, ↓gL_H, ↓pL_H, ↓gI_M1, ↓gI_M2, ↓gI_M3, ↓gI_M4, ↓gI_M5, ↓gI_M6, ↓gI_M13, ↓gI_M22, ↓gI_M23, ↓gI_M24, ↓gI_M25, ↓gI_M27, ↓gI_M28, ↓gI_M29, ↓gI_M30, ↓gI_M31, ↓gI_M32, ↓gI_M33, ↓gI_M34, ↓gI_M35, ↓gI_M40, ↓gI_M41, ↓gI_M42, ↓gI_M43, ↓pV_M1, ↓pV_M2, ↓pV_M3, ↓pV_M4, ↓pV_M5, ↓pV_M6, ↓pV_M13, ↓pV_M22, ↓pV_M23, ↓pV_M24, ↓pV_M25, ↓pV_M27, ↓pV_M28, ↓pV_M29, ↓pV_M30, ↓pV_M31, ↓pV_M32, ↓pV_M33, ↓pV_M34, ↓pV_M35, ↓pV_M40, ↓pV_M41, ↓pV_M42, ↓pV_M43, ↓gR_M0, ↓gR_M7, ↓gR_M8, ↓gR_M9, ↓gR_M10, ↓gR_M11, ↓gR_M12, ↓gR_M14, ↓gR_M15, ↓gR_M16, ↓gR_M17, ↓gR_M18, ↓gR_M19, ↓gR_M20, ↓gR_M21, ↓gR_M36, ↓gR_M37, ↓gR_M38, ↓gR_M39, ↓rd_M1, ↓rd_M2, ↓rd_M3, ↓rd_M4, ↓rd_M5, ↓rd_M6, ↓rd_M7, ↓rd_M8, ↓rd_M9, ↓rd_M10, ↓rd_M11, ↓rd_M12, ↓rd_M13, ↓rd_M14, ↓rd_M15, ↓rd_M16, ↓rd_M17, ↓rd_M18, ↓rd_M19, ↓wr_M1, ↓wr_M2, ↓wr_M3, ↓wr_M4, ↓wr_M5, ↓wr_M6, ↓wr_M7, ↓wr_M8, ↓wr_M9, ↓wr_M10, ↓wr_M11, ↓wr_M12, ↓wr_M13, ↓wr_M14, ↓wr_M15, ↓wr_M16, ↓wr_M17, ↓wr_M18, ↓wr_M19, pL_H, pV_M1, pV_M2, pV_M3, pV_M4, pV_M5, pV_M6, pV_M13, pV_M22, pV_M23, pV_M24, pV_M25, pV_M27, pV_M28, pV_M29, pV_M30, pV_M31, pV_M32, pV_M33, pV_M34, pV_M35, pV_M40, pV_M41, pV_M42, pV_M43, rd_M1, rd_M2, rd_M3, rd_M4, rd_M5, rd_M6, rd_M7, rd_M8, rd_M9, rd_M10, rd_M11, rd_M12, rd_M13, rd_M14, rd_M15, rd_M16, rd_M17, rd_M18, rd_M19, wr_M1, wr_M2, wr_M3, wr_M4, wr_M5, wr_M6, wr_M7, wr_M8, wr_M9, wr_M10, wr_M11, wr_M12, wr_M13, wr_M14, wr_M15, wr_M16, wr_M17, wr_M18, wr_M19, J_l, J_neg, J_add, J_sub, J_mul, J_lt, J_le, J_eq, J_div2, J_rem2, J_shl1, J_orp, J_or, J_and, J_shr, J_ushr, J_max, J_min, J_abs, J_b0, ↓b0_ite, ↓b0_ite2, b0_ite, bI_r, bV_r, b01_ite, ite_true, ite_false, rZ_b, K_l, J_long, M_in]
    by_cases h1 : m 2 i = v
    · rw [if_pos h1]
      exact ⟨i, rfl, Or.inr ⟨⟨i1.1, hc⟩, h1, i2⟩⟩
    · rw [if_neg h1]
      exact ih (i + 1) ⟨by omega, fun j j1 j2 => by
        by_cases e : j = i
        · rw [e]; exact h1
        · exact i2 j j1 (by omega)⟩ (by omega)
  · rw [if_neg hc]
    exact ⟨-2, rfl, Or.inl ⟨rfl, fun j j1 j2 => i2 j j1 (by omega)⟩⟩
theorem B_named (hI : Inv s m) (hv : -2147483648 ≤ v ∧ v < 2147483648) : Both (qD_named z (J v) (hi z TD g w s)) (qM_named y (J v) (hi y TM g' w' m)) z y g g' w w' := by
  have hIk := hI
  obtain ⟨hT, hE, ⟨hH, hNm, hP, row, hB, hO⟩, hS, hHi⟩ := hI
  have hn := hH.2.2.2
  have hLB : ∀ l, 0 ≤ l → l < m 0 6 → LB (m 3) l := fun l a b => (hP.1.1 l a b).1
  have hz := Bsz_of hH hP.1
  have hLI := LabI_of hP hB hO
  obtain ⟨m1, e1, l1⟩ := M_lays (y := y) (g := g') (w := w') (m := m) hH rfl rfl hP.1
  have hLM := LabM_of l1 hP.1.2.1 rfl
  have hk1 := KeepM_laid l1
  unfold qD_named qM_named
  rw [C_isName hv, M_isName hv, bI_r, bI_r, b0_ite2, b0_ite2]
  by_cases h1 : NmOk v
  · rw [if_pos h1, if_pos h1]
    obtain ⟨r1, a1, a2⟩ := C_lineNamed (z := z) (g := g) (w := w) hP.2 hn hNm hv
    obtain ⟨r2, b1, b2⟩ := M_named (y := y) (g := g') (w := w') hn hNm hv
    rw [b1]
    simp (disch := omega) only [↓gR_D0, ↓gR_D1, ↓gR_D2, ↓gR_D3, ↓gR_D4, ↓gR_D5, ↓gR_D6, ↓gR_D7, ↓gR_D8, ↓gR_D9, ↓gR_D10, ↓gI_D11, ↓pV_D11, ↓isO_D, ↓gI_T0, ↓pV_T0, ↓gR_T1, ↓isO_T, ↓rd_T2, ↓wr_T2, ↓gI_U0, ↓pV_U0, ↓gR_U1, ↓isO_U, ↓rd_U2, ↓wr_U2, ↓gI_Ps0, ↓pV_Ps0, ↓gI_Ps1, ↓pV_Ps1, ↓gI_Ps2, ↓pV_Ps2, ↓gI_Ps3, ↓pV_Ps3, ↓gI_Ps4, ↓pV_Ps4, ↓isO_Ps, ↓gI_N0, ↓pV_N0, ↓gI_N1, ↓pV_N1, ↓gI_N2, ↓pV_N2, ↓gI_N3, ↓pV_N3, ↓gR_N4, ↓gR_N5, ↓isO_N, ↓rd_NL, ↓gI_NB0, ↓pV_NB0, ↓gR_NB1, ↓gR_NB2, ↓isO_NB, ↓rd_NC, ↓wr_NC, ↓ln_NC, ↓rd_NP, ↓wr_NP, ↓ln_NP, ↓gI_V0, ↓pV_V0, ↓gI_V1, ↓pV_V1, ↓gI_V2, ↓pV_V2, ↓gI_V3, ↓pV_V3, ↓gR_V4, ↓gR_V5, ↓isO_V, ↓rd_VL, ↓gI_VB0, ↓pV_VB0, ↓gR_VB1, ↓gR_VB2, ↓isO_VB, ↓rd_VC, ↓wr_VC, ↓ln_VC, ↓rd_VP, ↓wr_VP, ↓ln_VP, ↓rd_SL, ↓rd_KP, ↓wr_KP, ↓gI_H0, ↓pV_H0, ↓gI_H1, ↓pV_H1, ↓gR_H2, ↓isO_H, ↓rd_HP, ↓gI_B0, ↓pV_B0, ↓gI_B1, ↓pV_B1, ↓gR_B2, ↓gR_B3, ↓gR_B4, ↓gR_B5, ↓gR_B6, ↓gR_B7, ↓gR_B8, ↓isO_B, ↓rd_B301, ↓wr_B301, ↓ln_B301, ↓rd_B302, ↓wr_B302, ↓ln_B302, ↓rd_B303, ↓wr_B303, ↓ln_B303, ↓rd_B304, ↓wr_B304, ↓ln_B304, ↓rd_B305, ↓wr_B305, ↓ln_B305, ↓rd_B306, ↓wr_B306, ↓ln_B306, ↓rd_B307, ↓wr_B307, ↓ln_B307, ↓gR_Tv, ↓isO_Tv, ↓rd_Tv9, ↓wr_Tv9, ↓ln_Tv9, pV_D11, pV_T0, rd_T2, wr_T2, pV_U0, rd_U2, wr_U2, pV_Ps0, pV_Ps1, pV_Ps2, pV_Ps3, pV_Ps4, pV_N0, pV_N1, pV_N2, pV_N3, rd_NL, pV_NB0, rd_NC, wr_NC, rd_NP, wr_NP, pV_V0, pV_V1, pV_V2, pV_V3, rd_VL, pV_VB0, rd_VC, wr_VC, rd_VP, wr_VP, rd_SL, rd_KP, wr_KP, pV_H0, pV_H1, rd_HP, pV_B0, pV_B1, rd_B301, wr_B301, rd_B302, wr_B302, rd_B303, wr_B303, rd_B304, wr_B304, rd_B305, wr_B305, rd_B306, wr_B306, rd_B307, wr_B307, rd_Tv9, wr_Tv9, bI_r, a1]
    rcases FN_uniq a2 b2 with ⟨e1, e2⟩ | ⟨e1, e2⟩
    · rw [e1, e2]
      simp (disch := omega) only [J_l, J_neg, J_add, J_sub, J_mul, J_lt, J_le, J_eq, J_div2, J_rem2, J_shl1, J_orp, J_or, J_and, J_shr, J_ushr, J_max, J_min, J_abs, J_b0, ↓b0_ite, ↓b0_ite2, b0_ite, bI_r, bV_r, b01_ite, ite_true, ite_false, rZ_b, K_l, J_long, M_in, if_pos]
      exact B_keep hIk rfl rfl KeepS.refl KeepM.refl
    · have r1b : r1 < 8 := by
        rcases a2 with ⟨q, _⟩ | ⟨q, _⟩ <;> omega
      rw [← e2]
      simp (disch := omega) only [J_l, J_neg, J_add, J_sub, J_mul, J_lt, J_le, J_eq, J_div2, J_rem2, J_shl1, J_orp, J_or, J_and, J_shr, J_ushr, J_max, J_min, J_abs, J_b0, ↓b0_ite, ↓b0_ite2, b0_ite, bI_r, bV_r, b01_ite, ite_true, ite_false, rZ_b, K_l, J_long, M_in, if_neg]
      exact B_keep hIk rfl rfl KeepS.refl KeepM.refl
  · rw [if_neg h1, if_neg h1]
    exact B_keep hIk rfl rfl KeepS.refl KeepM.refl
end NQ
