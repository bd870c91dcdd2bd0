/-! names -/
section NQ
variable {z y : Nat} {g g' : XH} {w w' : Int64} {s s' s0 s1 s2 m m' m0 m1 m2 : CT} {G W W' V W1 row row' r0 nm lo lg sn f : Int → Int} {wd hg mt c i j l n p v t k x xx yy N q o to : Int} {a b : Nat} {h : XH}
variable {k r u : Int}
theorem iand31 (h : 0 ≤ u) : iand u 31 = u % 32 := by
  unfold iand
  rw [show (31 : Int).toNat = 2 ^ 5 - 1 from rfl, Nat.and_two_pow_sub_one_eq_mod]
  omega
theorem lett_bd : 0 ≤ lett v i ∧ lett v i < 32 := by
  unfold lett
  omega
theorem pw_25 : pw 25 = 33554432 := by decide
theorem pw_30 : pw 30 = 1073741824 := by decide
theorem lett_0 (h : 0 < v ∧ v < 1073741824) : lett v 0 = v / 33554432 := by
  unfold lett
  rw [show (25 : Int) - 5 * 0 = 25 from rfl, pw_25]
  omega
theorem C_letterOf (h0 : 0 ≤ v ∧ v < 2147483648) (hi0 : 0 ≤ i ∧ i < 6) : qD_letterOf (J v) (J i) h = rI (J (lett v i)) h := by
  have p1 := pw_pos (n := 25 - 5 * i)
  have p2 : 0 ≤ v / pw (25 - 5 * i) := Int.ediv_nonneg h0.1 (by omega)
  unfold qD_letterOf qD_shiftOf lett
  simp (disch := omega) only [J_l, J_neg, J_add, J_sub, J_mul, J_lt, J_le, J_eq, J_div2, J_rem2, J_shl1, J_orp, J_or, J_and, J_shr, J_ushr, J_max, J_min, J_abs, J_b0, ↓b0_ite, ↓b0_ite2, b0_ite, bI_r, bV_r, b01_ite, ite_true, ite_false, rZ_b, K_l, J_long, M_in, iand31]
/-- letters as far as they were seen -/
def LtOk (v i : Int) : Prop := (∀ j, 0 ≤ j → j < i → lett v j ≤ 26) ∧ (∀ j, 0 ≤ j → j + 1 < i → lett v j = 0 → lett v (j + 1) = 0) ∧ (0 < i → 1 ≤ lett v 0)
theorem LtOk_0 : LtOk v 0 := ⟨fun j h1 h2 => by omega, fun j h1 h2 => by omega, fun h1 => by omega⟩
theorem LtOk_6 (h0 : 0 < v ∧ v < 1073741824) : LtOk v 6 ↔ NmOk v := ⟨fun ⟨h1, h2, h3⟩ => ⟨h0, h3 (by omega), h1, fun i i1 i2 => h2 i i1 (by omega)⟩, fun ⟨_, h1, h2, h3⟩ => ⟨h2, fun j j1 j2 => h3 j j1 (by omega), fun _ => h1⟩⟩
theorem LtOk_le (h : LtOk v k) (h1 : i ≤ k) (h0 : 0 ≤ i) : LtOk v i := ⟨fun j j1 j2 => h.1 j j1 (by omega), fun j j1 j2 => h.2.1 j j1 (by omega), fun q => h.2.2 (by omega)⟩
theorem LtOk_s (hi0 : 0 ≤ i) (h : LtOk v i) (h1 : lett v i ≤ 26) (h2 : 0 < i → lett v (i - 1) = 0 → lett v i = 0) (h3 : i = 0 → 1 ≤ lett v 0) : LtOk v (i + 1) := ⟨fun j j1 j2 => by
    by_cases e : j = i
    · rw [e]; exact h1
    · exact h.1 j j1 (by omega), fun j j1 j2 j3 => by
    by_cases e : j + 1 = i
    · rw [e]
      exact h2 (by omega) (by rw [show i - 1 = j by omega]; exact j3)
    · exact h.2.1 j j1 (by omega) j3, fun q => by
    by_cases e : i = 0
    · exact h3 e
    · exact h.2.2 (by omega)⟩
theorem C_isName (hv : -2147483648 ≤ v ∧ v < 2147483648) : qD_isName (J v) h = rI (J (b01 (NmOk v))) h := by
  have p25 := pw_25
  have p30 := pw_30
  unfold qD_isName
  simp (disch := omega) only [J_l, J_neg, J_add, J_sub, J_mul, J_lt, J_le, J_eq, J_div2, J_rem2, J_shl1, J_orp, J_or, J_and, J_shr, J_ushr, J_max, J_min, J_abs, J_b0, ↓b0_ite, ↓b0_ite2, b0_ite, bI_r, bV_r, b01_ite, ite_true, ite_false, rZ_b, K_l, J_long, M_in, p30]
  by_cases h0 : 0 < v ∧ v < 1073741824
  · rw [if_pos h0.1, if_pos (by omega)]
    have key := loopI (S := Int) (fun N i => qD_isName_17 N (J v) (J (b01 (0 < i ∧ lett v (i - 1) = 0))) (J i) h) (fun X => X = rI (J (b01 (NmOk v))) h) (fun i => (0 ≤ i ∧ i ≤ 6) ∧ LtOk v i) (fun i => 6 - i) (by intro p hp; omega) (fun N i hi0 ih => by
      obtain ⟨i1, i2⟩ := hi0
      show qD_isName_17_b (qD_isName_17 N) (J v) (J (b01 (0 < i ∧ lett v (i - 1) = 0))) (J i) h = _
      unfold qD_isName_17_b
      simp (disch := omega) only [J_l, J_neg, J_add, J_sub, J_mul, J_lt, J_le, J_eq, J_div2, J_rem2, J_shl1, J_orp, J_or, J_and, J_shr, J_ushr, J_max, J_min, J_abs, J_b0, ↓b0_ite, ↓b0_ite2, b0_ite, bI_r, bV_r, b01_ite, ite_true, ite_false, rZ_b, K_l, J_long, M_in]
      by_cases hc : i < 6
      · have lb := lett_bd (v := v) (i := i)
        rw [if_pos hc]
        simp (disch := omega) only [J_l, J_neg, J_add, J_sub, J_mul, J_lt, J_le, J_eq, J_div2, J_rem2, J_shl1, J_orp, J_or, J_and, J_shr, J_ushr, J_max, J_min, J_abs, J_b0, ↓b0_ite, ↓b0_ite2, b0_ite, bI_r, bV_r, b01_ite, ite_true, ite_false, rZ_b, K_l, J_long, M_in, C_letterOf]
        have no : ¬LtOk v (i + 1) → rI (J 0) h = rI (J (b01 (NmOk v))) h := fun hn => by
          rw [b01_neg (fun q => hn (LtOk_le ((LtOk_6 h0).mpr q) (by omega) (by omega)))]
        have yes : LtOk v (i + 1) → qD_isName_53 (qD_isName_17 N) (J v) (J i) (J (lett v i)) h = rI (J (b01 (NmOk v))) h := fun hn => by
          have := ih (i + 1) ⟨by omega, hn⟩ (by omega)
          change qD_isName_17 N (J v) (J (b01 (0 < i + 1 ∧ lett v (i + 1 - 1) = 0))) (J (i + 1)) h = _ at this
          rw [show i + 1 - 1 = i by omega] at this
          unfold qD_isName_53
          simp (disch := omega) only [J_l, J_neg, J_add, J_sub, J_mul, J_lt, J_le, J_eq, J_div2, J_rem2, J_shl1, J_orp, J_or, J_and, J_shr, J_ushr, J_max, J_min, J_abs, J_b0, ↓b0_ite, ↓b0_ite2, b0_ite, bI_r, bV_r, b01_ite, ite_true, ite_false, rZ_b, K_l, J_long, M_in]
          by_cases e : lett v i = 0
          · rw [b01_pos ⟨by omega, e⟩] at this
            rw [if_pos e]
            exact this
          · rw [b01_neg (fun q => e q.2)] at this
            rw [if_neg e]
            exact this
        have mid : (0 < i → lett v (i - 1) = 0 → lett v i = 0) → lett v i ≤ 26 → qD_isName_43 (qD_isName_17 N) (J v) (J i) (J (lett v i)) h = rI (J (b01 (NmOk v))) h := fun q1 q2 => by
          unfold qD_isName_43
          simp (disch := omega) only [J_l, J_neg, J_add, J_sub, J_mul, J_lt, J_le, J_eq, J_div2, J_rem2, J_shl1, J_orp, J_or, J_and, J_shr, J_ushr, J_max, J_min, J_abs, J_b0, ↓b0_ite, ↓b0_ite2, b0_ite, bI_r, bV_r, b01_ite, ite_true, ite_false, rZ_b, K_l, J_long, M_in]
          by_cases e1 : i = 0
          · rw [if_pos e1]
            by_cases e2 : lett v i = 0
            · rw [if_pos e2]
              exact no (fun q => by
                have := q.2.2 (by omega)
                rw [e1] at e2
                omega)
            · rw [if_neg e2]
              exact yes (LtOk_s i1.1 i2 q2 q1 (fun _ => by rw [e1] at e2 lb; omega))
          · rw [if_neg e1]
            exact yes (LtOk_s i1.1 i2 q2 q1 (fun e => absurd e e1))
        by_cases h2 : 26 < lett v i
        · rw [if_pos h2]
          exact no (fun q => by
            have := q.1 i i1.1 (by omega)
            omega)
        · rw [if_neg h2]
          by_cases h3 : 0 < i ∧ lett v (i - 1) = 0
          · rw [if_pos h3]
            by_cases h4 : lett v i = 0
            · rw [if_pos h4]
              exact mid (fun _ _ => h4) (by omega)
            · rw [if_neg h4]
              exact no (fun q => by
                have := q.2.1 (i - 1) (by omega) (by omega) h3.2
                rw [show i - 1 + 1 = i by omega] at this
                exact h4 this)
          · rw [if_neg h3]
            exact mid (fun q1 q2 => absurd ⟨q1, q2⟩ h3) (by omega)
      · rw [if_neg hc]
        rw [b01_pos ((LtOk_6 h0).mp (by rw [show (6 : Int) = i by omega]; exact i2))]) 0 ⟨by omega, LtOk_0⟩ (by omega)
    rw [b01_neg (by omega)] at key
    exact key
  · rw [b01_neg (fun q => h0 q.1)]
    by_cases h1 : 0 < v
    · rw [if_pos h1, if_neg (by omega)]
    · rw [if_neg h1]
theorem rZ_0 : rZ (J 0) h = rI (J 0) h := by
  have := rZ_b (P := False) (h := h)
  rw [b01_neg (fun q => q)] at this
  exact this
theorem rZ_1 : rZ (J 1) h = rI (J 1) h := by
  have := rZ_b (P := True) (h := h)
  rw [b01_pos trivial] at this
  exact this
theorem M_name_no {x o : Int32} (hi0 : 0 ≤ i ∧ i ≤ 6) : ∀ N : Nat, 8 - i < (N : Int) → qM_isName_25 N x o (J 0) (J (25 - 5 * i)) h = rI (J 0) h := by
  intro N
  induction N generalizing i o with
  | zero => intro hN; omega
  | succ N ih =>
    intro hN
    show qM_isName_25_b (qM_isName_25 N) x o (J 0) (J (25 - 5 * i)) h = _
    unfold qM_isName_25_b qM_isName_61 qM_isName_62 qM_isName_72
    by_cases hc : i < 6
    · have step : ∀ u : Int32, qM_isName_25 N x u (J 0) (J (25 - 5 * i) + (-5 : Int32)) h = rI (J 0) h := fun u => by
        rw [show J (25 - 5 * i) + (-5 : Int32) = J (25 - 5 * (i + 1)) by
          simp (disch := omega) only [J_l, J_neg, J_add, J_sub, J_mul, J_lt, J_le, J_eq, J_div2, J_rem2, J_shl1, J_orp, J_or, J_and, J_shr, J_ushr, J_max, J_min, J_abs, J_b0, ↓b0_ite, ↓b0_ite2, b0_ite, bI_r, bV_r, b01_ite, ite_true, ite_false, rZ_b, K_l, J_long, M_in]
          rw [show 25 - 5 * i + -5 = 25 - 5 * (i + 1) by omega]]
        exact ih (by omega) (by omega)
      have e0 : (0 : Int32) = J 0 := rfl
      rw [if_neg (by simp (disch := omega) only [J_l, J_neg, J_add, J_sub, J_mul, J_lt, J_le, J_eq, J_div2, J_rem2, J_shl1, J_orp, J_or, J_and, J_shr, J_ushr, J_max, J_min, J_abs, J_b0, ↓b0_ite, ↓b0_ite2, b0_ite, bI_r, bV_r, b01_ite, ite_true, ite_false, rZ_b, K_l, J_long, M_in]; omega), if_pos e0.symm, e0]
      split
      · split <;> exact step _
      · exact step _
    · rw [if_pos (by simp (disch := omega) only [J_l, J_neg, J_add, J_sub, J_mul, J_lt, J_le, J_eq, J_div2, J_rem2, J_shl1, J_orp, J_or, J_and, J_shr, J_ushr, J_max, J_min, J_abs, J_b0, ↓b0_ite, ↓b0_ite2, b0_ite, bI_r, bV_r, b01_ite, ite_true, ite_false, rZ_b, K_l, J_long, M_in]; omega), rZ_0]
theorem M_isName (hv : -2147483648 ≤ v ∧ v < 2147483648) : qM_isName (J v) h = rI (J (b01 (NmOk v))) h := by
  have p25 := pw_25
  have p30 := pw_30
  have bad : ∀ o : Int32, ¬NmOk v → qM_isName_25 LF (J v) o (J 0) (J 25) h = rI (J (b01 (NmOk v))) h := fun o hn => by
    rw [b01_neg hn]
    have := M_name_no (h := h) (x := J v) (o := o) (i := 0) (by omega) LF (by show (8 : Int) - 0 < ((20000 : Nat) : Int); omega)
    rw [show (25 : Int) - 5 * 0 = 25 from rfl] at this
    exact this
  unfold qM_isName
  simp (disch := omega) only [J_l, J_neg, J_add, J_sub, J_mul, J_lt, J_le, J_eq, J_div2, J_rem2, J_shl1, J_orp, J_or, J_and, J_shr, J_ushr, J_max, J_min, J_abs, J_b0, ↓b0_ite, ↓b0_ite2, b0_ite, bI_r, bV_r, b01_ite, ite_true, ite_false, rZ_b, K_l, J_long, M_in, p25, p30]
  by_cases h0 : 0 < v / 33554432 ∧ v / 1073741824 = 0
  · rw [if_pos h0.1, if_pos h0.2]
    have h1 : 0 < v ∧ v < 1073741824 := by omega
    have l0 : 1 ≤ lett v 0 := by rw [lett_0 h1]; omega
    have main : ∀ (N : Nat) (i : Int), 8 - i < (N : Int) → ((0 ≤ i ∧ i ≤ 6) ∧ LtOk v i) → qM_isName_25 N (J v) (J (b01 (0 < i ∧ lett v (i - 1) = 0))) (J 1) (J (25 - 5 * i)) h = rI (J (b01 (NmOk v))) h := fun N => by
      induction N with
      | zero => intro i hN hq; omega
      | succ N ih =>
      intro i hN hi0
      obtain ⟨i1, i2⟩ := hi0
      show qM_isName_25_b (qM_isName_25 N) (J v) (J (b01 (0 < i ∧ lett v (i - 1) = 0))) (J 1) (J (25 - 5 * i)) h = _
      unfold qM_isName_25_b qM_isName_61 qM_isName_57
      by_cases hc : i < 6
      · have lb := lett_bd (v := v) (i := i)
        have p2 : 0 ≤ v / pw (25 - 5 * i) := Int.ediv_nonneg (by omega) (by have := pw_pos (n := 25 - 5 * i); omega)
        have eL : iand (v / pw (25 - 5 * i)) 31 = lett v i := iand31 p2
        have no : ∀ o : Int32, ¬LtOk v (i + 1) → qM_isName_25 N (J v) o (J 0) (J (25 - 5 * i + -5)) h = rI (J (b01 (NmOk v))) h := fun o hn => by
          rw [b01_neg (fun q => hn (LtOk_le ((LtOk_6 h1).mpr q) (by omega) (by omega))), show 25 - 5 * i + -5 = 25 - 5 * (i + 1) by omega]
          exact M_name_no (by omega) _ (by omega)
        have no62 : ∀ o : Int32, ¬LtOk v (i + 1) → qM_isName_62 (qM_isName_25 N) (J v) o (J (25 - 5 * i)) (J (lett v i)) (J 0) h = rI (J (b01 (NmOk v))) h := fun o hn => by
          unfold qM_isName_62 qM_isName_72
          simp (disch := omega) only [J_l, J_neg, J_add, J_sub, J_mul, J_lt, J_le, J_eq, J_div2, J_rem2, J_shl1, J_orp, J_or, J_and, J_shr, J_ushr, J_max, J_min, J_abs, J_b0, ↓b0_ite, ↓b0_ite2, b0_ite, bI_r, bV_r, b01_ite, ite_true, ite_false, rZ_b, K_l, J_long, M_in]
          split
          · split <;> exact no _ hn
          · exact no _ hn
        have yes : LtOk v (i + 1) → qM_isName_62 (qM_isName_25 N) (J v) (J (b01 (0 < i ∧ lett v (i - 1) = 0))) (J (25 - 5 * i)) (J (lett v i)) (J 1) h = rI (J (b01 (NmOk v))) h := fun hn => by
          have := ih (i + 1) (by omega) ⟨by omega, hn⟩
          change qM_isName_25 N (J v) (J (b01 (0 < i + 1 ∧ lett v (i + 1 - 1) = 0))) (J 1) (J (25 - 5 * (i + 1))) h = _ at this
          rw [show i + 1 - 1 = i by omega, show 25 - 5 * (i + 1) = 25 - 5 * i + -5 by omega] at this
          unfold qM_isName_62 qM_isName_72
          simp (disch := omega) only [J_l, J_neg, J_add, J_sub, J_mul, J_lt, J_le, J_eq, J_div2, J_rem2, J_shl1, J_orp, J_or, J_and, J_shr, J_ushr, J_max, J_min, J_abs, J_b0, ↓b0_ite, ↓b0_ite2, b0_ite, bI_r, bV_r, b01_ite, ite_true, ite_false, rZ_b, K_l, J_long, M_in]
          by_cases e : lett v i = 0
          · rw [b01_pos ⟨by omega, e⟩] at this
            (repeat' split) <;> first | exact this | (exfalso; omega)
          · rw [b01_neg (fun q => e q.2)] at this
            have e2 : ¬(0 < i ∧ lett v (i - 1) = 0) := fun q => by
              have := hn.2.1 (i - 1) (by omega) (by omega) q.2
              rw [show i - 1 + 1 = i by omega] at this
              exact e this
            rw [if_neg e2, if_neg e]
            exact this
        simp (disch := omega) only [J_l, J_neg, J_add, J_sub, J_mul, J_lt, J_le, J_eq, J_div2, J_rem2, J_shl1, J_orp, J_or, J_and, J_shr, J_ushr, J_max, J_min, J_abs, J_b0, ↓b0_ite, ↓b0_ite2, b0_ite, bI_r, bV_r, b01_ite, ite_true, ite_false, rZ_b, K_l, J_long, M_in, eL]
        rw [if_neg (by omega)]
        by_cases h2 : lett v i < 27
        · rw [if_pos h2]
          by_cases h3 : 0 < i ∧ lett v (i - 1) = 0
          · rw [if_pos h3]
            by_cases h4 : 0 < lett v i
            · rw [if_pos h4]
              exact no62 _ (fun q => by
                have := q.2.1 (i - 1) (by omega) (by omega) h3.2
                rw [show i - 1 + 1 = i by omega] at this
                omega)
            · rw [if_neg h4]
              exact yes (LtOk_s i1.1 i2 (by omega) (fun _ _ => by omega) (fun _ => l0))
          · rw [if_neg h3]
            exact yes (LtOk_s i1.1 i2 (by omega) (fun q1 q2 => absurd ⟨q1, q2⟩ h3) (fun _ => l0))
        · rw [if_neg h2]
          exact no62 _ (fun q => by
            have := q.1 i i1.1 (by omega)
            omega)
      · simp (disch := omega) only [J_l, J_neg, J_add, J_sub, J_mul, J_lt, J_le, J_eq, J_div2, J_rem2, J_shl1, J_orp, J_or, J_and, J_shr, J_ushr, J_max, J_min, J_abs, J_b0, ↓b0_ite, ↓b0_ite2, b0_ite, bI_r, bV_r, b01_ite, ite_true, ite_false, rZ_b, K_l, J_long, M_in]
        rw [if_pos (by omega), rZ_1, b01_pos ((LtOk_6 h1).mp (by rw [show (6 : Int) = i by omega]; exact i2))]
    have key := main LF 0 (by show (8 : Int) - 0 < ((20000 : Nat) : Int); omega) ⟨by omega, LtOk_0⟩
    rw [b01_neg (by omega), show (25 : Int) - 5 * 0 = 25 from rfl] at key
    exact key
  · have hn : ¬NmOk v := fun q => h0 (by
      have := q.1
      have l0 := q.2.1
      rw [lett_0 this] at l0
      omega)
    by_cases h1 : 0 < v / 33554432
    · rw [if_pos h1, if_neg (by omega)]
      exact bad _ hn
    · rw [if_neg h1]
      exact bad _ hn
end NQ
