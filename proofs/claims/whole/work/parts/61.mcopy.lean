/-! worlds copied, plans remembered -/
section MP
variable {z y : Nat} {g g' : XH} {w w' : Int64} {s s' s0 m m' m0 : CT} {W W' row nm p q : Int → Int} {wd hg mt c i j l n v t k u : Int} {a b : Nat}
def cpZ (p q : Int → Int) (t : Int) : Int → Int := fun j => if 0 ≤ j ∧ j < t then p j else q j
theorem cpZ_0 : cpZ p q 0 = q := funext fun j => if_neg (by omega)
theorem cpZ_s (h : 0 ≤ t) : ru (cpZ p q t) t (p t) = cpZ p q (t + 1) := funext fun j => by
  unfold ru cpZ
  by_cases h1 : j = t
  · rw [if_pos h1, if_pos (by omega), h1]
  · rw [if_neg h1]
    by_cases h2 : 0 ≤ j ∧ j < t
    · rw [if_pos h2, if_pos (by omega)]
    · rw [if_neg h2, if_neg (by omega)]
theorem cpZ_ge (h : t ≤ j) : cpZ p q t j = q j := if_neg (by omega)
theorem cpZ_in (h : 0 ≤ j ∧ j < t) : cpZ p q t j = p j := if_pos h
theorem M_thinks : qM_thinks y (hi y TM g w m) = rV (hi y TM g w (rs m 4 (cpZ (m 3) (m 4) 1784))) := by
  have key := loopI (S := Int) (fun N t => qM_thinks_2 N y (J t) (hi y TM g w (rs m 4 (cpZ (m 3) (m 4) t)))) (fun X => X = rV (hi y TM g w (rs m 4 (cpZ (m 3) (m 4) 1784)))) (fun t => 0 ≤ t ∧ t ≤ 1784) (fun t => 1784 - t) (by intro t ht; omega) (fun N t ht ih => by
    show qM_thinks_2_b (qM_thinks_2 N) y (J t) (hi y TM g w (rs m 4 (cpZ (m 3) (m 4) t))) = _
    unfold qM_thinks_2_b
    by_cases hc : t < 1784
    · simp (disch := omega) only [↓isO_M, ↓gL_H, ↓pL_H, ↓gI_M1, ↓gI_M2, ↓gI_M3, ↓gI_M4, ↓gI_M5, ↓gI_M6, ↓gI_M13, ↓gI_M22, ↓gI_M23, ↓gI_M24, ↓gI_M25, ↓gI_M27, ↓gI_M28, ↓gI_M29, ↓gI_M30, ↓gI_M31, ↓gI_M32, ↓gI_M33, ↓gI_M34, ↓gI_M35, ↓gI_M40, ↓gI_M41, ↓gI_M42, ↓gI_M43, ↓pV_M1, ↓pV_M2, ↓pV_M3, ↓pV_M4, ↓pV_M5, ↓pV_M6, ↓pV_M13, ↓pV_M22, ↓pV_M23, ↓pV_M24, ↓pV_M25, ↓pV_M27, ↓pV_M28, ↓pV_M29, ↓pV_M30, ↓pV_M31, ↓pV_M32, ↓pV_M33, ↓pV_M34, ↓pV_M35, ↓pV_M40, ↓pV_M41, ↓pV_M42, ↓pV_M43, ↓gR_M0, ↓gR_M7, ↓gR_M8, ↓gR_M9, ↓gR_M10, ↓gR_M11, ↓gR_M12, ↓gR_M14, ↓gR_M15, ↓gR_M16, ↓gR_M17, ↓gR_M18, ↓gR_M19, ↓gR_M20, ↓gR_M21, ↓gR_M36, ↓gR_M37, ↓gR_M38, ↓gR_M39, ↓rd_M1, ↓rd_M2, ↓rd_M3, ↓rd_M4, ↓rd_M5, ↓rd_M6, ↓rd_M7, ↓rd_M8, ↓rd_M9, ↓rd_M10, ↓rd_M11, ↓rd_M12, ↓rd_M13, ↓rd_M14, ↓rd_M15, ↓rd_M16, ↓rd_M17, ↓rd_M18, ↓rd_M19, ↓wr_M1, ↓wr_M2, ↓wr_M3, ↓wr_M4, ↓wr_M5, ↓wr_M6, ↓wr_M7, ↓wr_M8, ↓wr_M9, ↓wr_M10, ↓wr_M11, ↓wr_M12, ↓wr_M13, ↓wr_M14, ↓wr_M15, ↓wr_M16, ↓wr_M17, ↓wr_M18, ↓wr_M19, pL_H, pV_M1, pV_M2, pV_M3, pV_M4, pV_M5, pV_M6, pV_M13, pV_M22, pV_M23, pV_M24, pV_M25, pV_M27, pV_M28, pV_M29, pV_M30, pV_M31, pV_M32, pV_M33, pV_M34, pV_M35, pV_M40, pV_M41, pV_M42, pV_M43, rd_M1, rd_M2, rd_M3, rd_M4, rd_M5, rd_M6, rd_M7, rd_M8, rd_M9, rd_M10, rd_M11, rd_M12, rd_M13, rd_M14, rd_M15, rd_M16, rd_M17, rd_M18, rd_M19, wr_M1, wr_M2, wr_M3, wr_M4, wr_M5, wr_M6, wr_M7, wr_M8, wr_M9, wr_M10, wr_M11, wr_M12, wr_M13, wr_M14, wr_M15, wr_M16, wr_M17, wr_M18, wr_M19, J_l, J_neg, J_add, J_sub, J_mul, J_lt, J_le, J_eq, J_div2, J_rem2, J_shl1, J_orp, J_or, J_and, J_shr, J_ushr, J_max, J_min, J_abs, J_b0, ↓b0_ite, ↓b0_ite2, b0_ite, bI_r, bV_r, b01_ite, ite_true, ite_false, rZ_b, K_l, J_long, M_in, rs_same, rs_ne, rs_rs, ru_same, ru_ne, ne_eq, if_pos, cpZ_s]
      exact ih (t + 1) (by omega) (by omega)
    · rw [show t = 1784 by omega]
      simp (disch := omega) only [J_l, J_neg, J_add, J_sub, J_mul, J_lt, J_le, J_eq, J_div2, J_rem2, J_shl1, J_orp, J_or, J_and, J_shr, J_ushr, J_max, J_min, J_abs, J_b0, ↓b0_ite, ↓b0_ite2, b0_ite, bI_r, bV_r, b01_ite, ite_true, ite_false, rZ_b, K_l, J_long, M_in, if_neg]) 0 (by omega) (by omega)
  rw [cpZ_0, rs_self] at key
  exact key
theorem M_comesBack : qM_comesBack y (hi y TM g w m) = rV (hi y TM g w (rs m 3 (cpZ (m 4) (m 3) 1784))) := by
  have key := loopI (S := Int) (fun N t => qM_comesBack_2 N y (J t) (hi y TM g w (rs m 3 (cpZ (m 4) (m 3) t)))) (fun X => X = rV (hi y TM g w (rs m 3 (cpZ (m 4) (m 3) 1784)))) (fun t => 0 ≤ t ∧ t ≤ 1784) (fun t => 1784 - t) (by intro t ht; omega) (fun N t ht ih => by
    show qM_comesBack_2_b (qM_comesBack_2 N) y (J t) (hi y TM g w (rs m 3 (cpZ (m 4) (m 3) t))) = _
    unfold qM_comesBack_2_b
    by_cases hc : t < 1784
    · simp (disch := omega) only [↓isO_M, ↓gL_H, ↓pL_H, ↓gI_M1, ↓gI_M2, ↓gI_M3, ↓gI_M4, ↓gI_M5, ↓gI_M6, ↓gI_M13, ↓gI_M22, ↓gI_M23, ↓gI_M24, ↓gI_M25, ↓gI_M27, ↓gI_M28, ↓gI_M29, ↓gI_M30, ↓gI_M31, ↓gI_M32, ↓gI_M33, ↓gI_M34, ↓gI_M35, ↓gI_M40, ↓gI_M41, ↓gI_M42, ↓gI_M43, ↓pV_M1, ↓pV_M2, ↓pV_M3, ↓pV_M4, ↓pV_M5, ↓pV_M6, ↓pV_M13, ↓pV_M22, ↓pV_M23, ↓pV_M24, ↓pV_M25, ↓pV_M27, ↓pV_M28, ↓pV_M29, ↓pV_M30, ↓pV_M31, ↓pV_M32, ↓pV_M33, ↓pV_M34, ↓pV_M35, ↓pV_M40, ↓pV_M41, ↓pV_M42, ↓pV_M43, ↓gR_M0, ↓gR_M7, ↓gR_M8, ↓gR_M9, ↓gR_M10, ↓gR_M11, ↓gR_M12, ↓gR_M14, ↓gR_M15, ↓gR_M16, ↓gR_M17, ↓gR_M18, ↓gR_M19, ↓gR_M20, ↓gR_M21, ↓gR_M36, ↓gR_M37, ↓gR_M38, ↓gR_M39, ↓rd_M1, ↓rd_M2, ↓rd_M3, ↓rd_M4, ↓rd_M5, ↓rd_M6, ↓rd_M7, ↓rd_M8, ↓rd_M9, ↓rd_M10, ↓rd_M11, ↓rd_M12, ↓rd_M13, ↓rd_M14, ↓rd_M15, ↓rd_M16, ↓rd_M17, ↓rd_M18, ↓rd_M19, ↓wr_M1, ↓wr_M2, ↓wr_M3, ↓wr_M4, ↓wr_M5, ↓wr_M6, ↓wr_M7, ↓wr_M8, ↓wr_M9, ↓wr_M10, ↓wr_M11, ↓wr_M12, ↓wr_M13, ↓wr_M14, ↓wr_M15, ↓wr_M16, ↓wr_M17, ↓wr_M18, ↓wr_M19, pL_H, pV_M1, pV_M2, pV_M3, pV_M4, pV_M5, pV_M6, pV_M13, pV_M22, pV_M23, pV_M24, pV_M25, pV_M27, pV_M28, pV_M29, pV_M30, pV_M31, pV_M32, pV_M33, pV_M34, pV_M35, pV_M40, pV_M41, pV_M42, pV_M43, rd_M1, rd_M2, rd_M3, rd_M4, rd_M5, rd_M6, rd_M7, rd_M8, rd_M9, rd_M10, rd_M11, rd_M12, rd_M13, rd_M14, rd_M15, rd_M16, rd_M17, rd_M18, rd_M19, wr_M1, wr_M2, wr_M3, wr_M4, wr_M5, wr_M6, wr_M7, wr_M8, wr_M9, wr_M10, wr_M11, wr_M12, wr_M13, wr_M14, wr_M15, wr_M16, wr_M17, wr_M18, wr_M19, J_l, J_neg, J_add, J_sub, J_mul, J_lt, J_le, J_eq, J_div2, J_rem2, J_shl1, J_orp, J_or, J_and, J_shr, J_ushr, J_max, J_min, J_abs, J_b0, ↓b0_ite, ↓b0_ite2, b0_ite, bI_r, bV_r, b01_ite, ite_true, ite_false, rZ_b, K_l, J_long, M_in, rs_same, rs_ne, rs_rs, ru_same, ru_ne, ne_eq, if_pos, cpZ_s]
      exact ih (t + 1) (by omega) (by omega)
    · rw [show t = 1784 by omega]
      simp (disch := omega) only [J_l, J_neg, J_add, J_sub, J_mul, J_lt, J_le, J_eq, J_div2, J_rem2, J_shl1, J_orp, J_or, J_and, J_shr, J_ushr, J_max, J_min, J_abs, J_b0, ↓b0_ite, ↓b0_ite2, b0_ite, bI_r, bV_r, b01_ite, ite_true, ite_false, rZ_b, K_l, J_long, M_in, if_neg]) 0 (by omega) (by omega)
  rw [cpZ_0, rs_self] at key
  exact key
theorem rs_sw {q1 q2 q3 q4 : Int → Int} : rs (rs (rs (rs m 3 q1) 4 q2) 3 q3) 4 q4 = rs (rs m 3 q3) 4 q4 := by
  funext b
  unfold rs
  by_cases h4 : b = 4
  · rw [if_pos h4, if_pos h4]
  · rw [if_neg h4, if_neg h4]
    by_cases h3 : b = 3
    · rw [if_pos h3, if_neg h4, if_pos h3]
    · rw [if_neg h3, if_neg h3, if_neg h4, if_neg h3]
theorem M_swaps : qM_swaps y (hi y TM g w m) = rV (hi y TM g w (rs (rs m 3 (cpZ (m 4) (m 3) 1784)) 4 (cpZ (m 3) (m 4) 1784))) := by
  have key := loopI (S := Int) (fun N t => qM_swaps_2 N y (J t) (hi y TM g w (rs (rs m 3 (cpZ (m 4) (m 3) t)) 4 (cpZ (m 3) (m 4) t)))) (fun X => X = rV (hi y TM g w (rs (rs m 3 (cpZ (m 4) (m 3) 1784)) 4 (cpZ (m 3) (m 4) 1784)))) (fun t => 0 ≤ t ∧ t ≤ 1784) (fun t => 1784 - t) (by intro t ht; omega) (fun N t ht ih => by
    show qM_swaps_2_b (qM_swaps_2 N) y (J t) (hi y TM g w (rs (rs m 3 (cpZ (m 4) (m 3) t)) 4 (cpZ (m 3) (m 4) t))) = _
    unfold qM_swaps_2_b
    by_cases hc : t < 1784
    · have e1 : cpZ (m 4) (m 3) t t = m 3 t := cpZ_ge (Int.le_refl t)
      have e2 : cpZ (m 3) (m 4) t t = m 4 t := cpZ_ge (Int.le_refl t)
      simp (disch := omega) only [↓isO_M, ↓gL_H, ↓pL_H, ↓gI_M1, ↓gI_M2, ↓gI_M3, ↓gI_M4, ↓gI_M5, ↓gI_M6, ↓gI_M13, ↓gI_M22, ↓gI_M23, ↓gI_M24, ↓gI_M25, ↓gI_M27, ↓gI_M28, ↓gI_M29, ↓gI_M30, ↓gI_M31, ↓gI_M32, ↓gI_M33, ↓gI_M34, ↓gI_M35, ↓gI_M40, ↓gI_M41, ↓gI_M42, ↓gI_M43, ↓pV_M1, ↓pV_M2, ↓pV_M3, ↓pV_M4, ↓pV_M5, ↓pV_M6, ↓pV_M13, ↓pV_M22, ↓pV_M23, ↓pV_M24, ↓pV_M25, ↓pV_M27, ↓pV_M28, ↓pV_M29, ↓pV_M30, ↓pV_M31, ↓pV_M32, ↓pV_M33, ↓pV_M34, ↓pV_M35, ↓pV_M40, ↓pV_M41, ↓pV_M42, ↓pV_M43, ↓gR_M0, ↓gR_M7, ↓gR_M8, ↓gR_M9, ↓gR_M10, ↓gR_M11, ↓gR_M12, ↓gR_M14, ↓gR_M15, ↓gR_M16, ↓gR_M17, ↓gR_M18, ↓gR_M19, ↓gR_M20, ↓gR_M21, ↓gR_M36, ↓gR_M37, ↓gR_M38, ↓gR_M39, ↓rd_M1, ↓rd_M2, ↓rd_M3, ↓rd_M4, ↓rd_M5, ↓rd_M6, ↓rd_M7, ↓rd_M8, ↓rd_M9, ↓rd_M10, ↓rd_M11, ↓rd_M12, ↓rd_M13, ↓rd_M14, ↓rd_M15, ↓rd_M16, ↓rd_M17, ↓rd_M18, ↓rd_M19, ↓wr_M1, ↓wr_M2, ↓wr_M3, ↓wr_M4, ↓wr_M5, ↓wr_M6, ↓wr_M7, ↓wr_M8, ↓wr_M9, ↓wr_M10, ↓wr_M11, ↓wr_M12, ↓wr_M13, ↓wr_M14, ↓wr_M15, ↓wr_M16, ↓wr_M17, ↓wr_M18, ↓wr_M19, pL_H, pV_M1, pV_M2, pV_M3, pV_M4, pV_M5, pV_M6, pV_M13, pV_M22, pV_M23, pV_M24, pV_M25, pV_M27, pV_M28, pV_M29, pV_M30, pV_M31, pV_M32, pV_M33, pV_M34, pV_M35, pV_M40, pV_M41, pV_M42, pV_M43, rd_M1, rd_M2, rd_M3, rd_M4, rd_M5, rd_M6, rd_M7, rd_M8, rd_M9, rd_M10, rd_M11, rd_M12, rd_M13, rd_M14, rd_M15, rd_M16, rd_M17, rd_M18, rd_M19, wr_M1, wr_M2, wr_M3, wr_M4, wr_M5, wr_M6, wr_M7, wr_M8, wr_M9, wr_M10, wr_M11, wr_M12, wr_M13, wr_M14, wr_M15, wr_M16, wr_M17, wr_M18, wr_M19, J_l, J_neg, J_add, J_sub, J_mul, J_lt, J_le, J_eq, J_div2, J_rem2, J_shl1, J_orp, J_or, J_and, J_shr, J_ushr, J_max, J_min, J_abs, J_b0, ↓b0_ite, ↓b0_ite2, b0_ite, bI_r, bV_r, b01_ite, ite_true, ite_false, rZ_b, K_l, J_long, M_in, rs_same, rs_ne, rs_rs, ru_same, ru_ne, ne_eq, if_pos, e1, e2]
      rw [rs_sw, cpZ_s ht.1, cpZ_s ht.1]
      exact ih (t + 1) (by omega) (by omega)
    · rw [show t = 1784 by omega]
      simp (disch := omega) only [J_l, J_neg, J_add, J_sub, J_mul, J_lt, J_le, J_eq, J_div2, J_rem2, J_shl1, J_orp, J_or, J_and, J_shr, J_ushr, J_max, J_min, J_abs, J_b0, ↓b0_ite, ↓b0_ite2, b0_ite, bI_r, bV_r, b01_ite, ite_true, ite_false, rZ_b, K_l, J_long, M_in, if_neg]) 0 (by omega) (by omega)
  rw [cpZ_0, cpZ_0] at key
  have e : rs (rs m 3 (m 3)) 4 (m 4) = m := by rw [rs_self, rs_self]
  rw [e] at key
  exact key
/-- a row shifted by a world -/
def shW (p : Int → Int) (t : Int) : Int → Int := fun j => if 0 ≤ j ∧ j < t - 1784 then p (j + 1784) else p j
theorem shW_s (h : 1784 ≤ t) : ru (shW p t) (t - 1784) (shW p t t) = shW p (t + 1) := funext fun j => by
  have e : shW p t t = p t := if_neg (by omega)
  rw [e]
  unfold ru shW
  by_cases h1 : j = t - 1784
  · rw [if_pos h1, if_pos (by omega), h1, show t - 1784 + 1784 = t by omega]
  · rw [if_neg h1]
    by_cases h2 : 0 ≤ j ∧ j < t - 1784
    · rw [if_pos h2, if_pos (by omega)]
    · rw [if_neg h2, if_neg (by omega)]
theorem shW_0 : shW p 1784 = p := funext fun j => if_neg (by omega)
/-- a world laid into a row -/
def inW (p q : Int → Int) (f t : Int) : Int → Int := fun j => if f ≤ j ∧ j < f + t then p (j - f) else q j
theorem inW_0 {f : Int} : inW p q f 0 = q := funext fun j => if_neg (by omega)
theorem inW_s {f : Int} (h : 0 ≤ t) : ru (inW p q f t) (f + t) (p t) = inW p q f (t + 1) := funext fun j => by
  unfold ru inW
  by_cases h1 : j = f + t
  · rw [if_pos h1, if_pos (by omega), h1, show f + t - f = t by omega]
  · rw [if_neg h1]
    by_cases h2 : f ≤ j ∧ j < f + t
    · rw [if_pos h2, if_pos (by omega)]
    · rw [if_neg h2, if_neg (by omega)]
theorem M_rem54 (hu : 0 ≤ m 0 13 ∧ m 0 13 < 8) : qM_remembers_54 LF y (J 0) (hi y TM g w m) = rV (hi y TM g w (rs (rs m 5 (inW (m 3) (m 5) (1784 * m 0 13) 1784)) 0 (ru (m 0) 13 (m 0 13 + 1)))) := by
  have key := loopI (S := Int) (fun N t => qM_remembers_54 N y (J t) (hi y TM g w (rs m 5 (inW (m 3) (m 5) (1784 * m 0 13) t)))) (fun X => X = rV (hi y TM g w (rs (rs m 5 (inW (m 3) (m 5) (1784 * m 0 13) 1784)) 0 (ru (m 0) 13 (m 0 13 + 1))))) (fun t => 0 ≤ t ∧ t ≤ 1784) (fun t => 1784 - t) (by intro t ht; omega) (fun N t ht ih => by
    show qM_remembers_54_b (qM_remembers_54 N) y (J t) (hi y TM g w (rs m 5 (inW (m 3) (m 5) (1784 * m 0 13) t))) = _
    unfold qM_remembers_54_b qM_remembers_88
    by_cases hc : t < 1784
    · simp (disch := omega) only [↓isO_M, ↓gL_H, ↓pL_H, ↓gI_M1, ↓gI_M2, ↓gI_M3, ↓gI_M4, ↓gI_M5, ↓gI_M6, ↓gI_M13, ↓gI_M22, ↓gI_M23, ↓gI_M24, ↓gI_M25, ↓gI_M27, ↓gI_M28, ↓gI_M29, ↓gI_M30, ↓gI_M31, ↓gI_M32, ↓gI_M33, ↓gI_M34, ↓gI_M35, ↓gI_M40, ↓gI_M41, ↓gI_M42, ↓gI_M43, ↓pV_M1, ↓pV_M2, ↓pV_M3, ↓pV_M4, ↓pV_M5, ↓pV_M6, ↓pV_M13, ↓pV_M22, ↓pV_M23, ↓pV_M24, ↓pV_M25, ↓pV_M27, ↓pV_M28, ↓pV_M29, ↓pV_M30, ↓pV_M31, ↓pV_M32, ↓pV_M33, ↓pV_M34, ↓pV_M35, ↓pV_M40, ↓pV_M41, ↓pV_M42, ↓pV_M43, ↓gR_M0, ↓gR_M7, ↓gR_M8, ↓gR_M9, ↓gR_M10, ↓gR_M11, ↓gR_M12, ↓gR_M14, ↓gR_M15, ↓gR_M16, ↓gR_M17, ↓gR_M18, ↓gR_M19, ↓gR_M20, ↓gR_M21, ↓gR_M36, ↓gR_M37, ↓gR_M38, ↓gR_M39, ↓rd_M1, ↓rd_M2, ↓rd_M3, ↓rd_M4, ↓rd_M5, ↓rd_M6, ↓rd_M7, ↓rd_M8, ↓rd_M9, ↓rd_M10, ↓rd_M11, ↓rd_M12, ↓rd_M13, ↓rd_M14, ↓rd_M15, ↓rd_M16, ↓rd_M17, ↓rd_M18, ↓rd_M19, ↓wr_M1, ↓wr_M2, ↓wr_M3, ↓wr_M4, ↓wr_M5, ↓wr_M6, ↓wr_M7, ↓wr_M8, ↓wr_M9, ↓wr_M10, ↓wr_M11, ↓wr_M12, ↓wr_M13, ↓wr_M14, ↓wr_M15, ↓wr_M16, ↓wr_M17, ↓wr_M18, ↓wr_M19, pL_H, pV_M1, pV_M2, pV_M3, pV_M4, pV_M5, pV_M6, pV_M13, pV_M22, pV_M23, pV_M24, pV_M25, pV_M27, pV_M28, pV_M29, pV_M30, pV_M31, pV_M32, pV_M33, pV_M34, pV_M35, pV_M40, pV_M41, pV_M42, pV_M43, rd_M1, rd_M2, rd_M3, rd_M4, rd_M5, rd_M6, rd_M7, rd_M8, rd_M9, rd_M10, rd_M11, rd_M12, rd_M13, rd_M14, rd_M15, rd_M16, rd_M17, rd_M18, rd_M19, wr_M1, wr_M2, wr_M3, wr_M4, wr_M5, wr_M6, wr_M7, wr_M8, wr_M9, wr_M10, wr_M11, wr_M12, wr_M13, wr_M14, wr_M15, wr_M16, wr_M17, wr_M18, wr_M19, J_l, J_neg, J_add, J_sub, J_mul, J_lt, J_le, J_eq, J_div2, J_rem2, J_shl1, J_orp, J_or, J_and, J_shr, J_ushr, J_max, J_min, J_abs, J_b0, ↓b0_ite, ↓b0_ite2, b0_ite, bI_r, bV_r, b01_ite, ite_true, ite_false, rZ_b, K_l, J_long, M_in, rs_same, rs_ne, rs_rs, ru_same, ru_ne, ne_eq, if_pos, inW_s]
      exact ih (t + 1) (by omega) (by omega)
    · rw [show t = 1784 by omega]
      simp (disch := omega) only [↓isO_M, ↓gL_H, ↓pL_H, ↓gI_M1, ↓gI_M2, ↓gI_M3, ↓gI_M4, ↓gI_M5, ↓gI_M6, ↓gI_M13, ↓gI_M22, ↓gI_M23, ↓gI_M24, ↓gI_M25, ↓gI_M27, ↓gI_M28, ↓gI_M29, ↓gI_M30, ↓gI_M31, ↓gI_M32, ↓gI_M33, ↓gI_M34, ↓gI_M35, ↓gI_M40, ↓gI_M41, ↓gI_M42, ↓gI_M43, ↓pV_M1, ↓pV_M2, ↓pV_M3, ↓pV_M4, ↓pV_M5, ↓pV_M6, ↓pV_M13, ↓pV_M22, ↓pV_M23, ↓pV_M24, ↓pV_M25, ↓pV_M27, ↓pV_M28, ↓pV_M29, ↓pV_M30, ↓pV_M31, ↓pV_M32, ↓pV_M33, ↓pV_M34, ↓pV_M35, ↓pV_M40, ↓pV_M41, ↓pV_M42, ↓pV_M43, ↓gR_M0, ↓gR_M7, ↓gR_M8, ↓gR_M9, ↓gR_M10, ↓gR_M11, ↓gR_M12, ↓gR_M14, ↓gR_M15, ↓gR_M16, ↓gR_M17, ↓gR_M18, ↓gR_M19, ↓gR_M20, ↓gR_M21, ↓gR_M36, ↓gR_M37, ↓gR_M38, ↓gR_M39, ↓rd_M1, ↓rd_M2, ↓rd_M3, ↓rd_M4, ↓rd_M5, ↓rd_M6, ↓rd_M7, ↓rd_M8, ↓rd_M9, ↓rd_M10, ↓rd_M11, ↓rd_M12, ↓rd_M13, ↓rd_M14, ↓rd_M15, ↓rd_M16, ↓rd_M17, ↓rd_M18, ↓rd_M19, ↓wr_M1, ↓wr_M2, ↓wr_M3, ↓wr_M4, ↓wr_M5, ↓wr_M6, ↓wr_M7, ↓wr_M8, ↓wr_M9, ↓wr_M10, ↓wr_M11, ↓wr_M12, ↓wr_M13, ↓wr_M14, ↓wr_M15, ↓wr_M16, ↓wr_M17, ↓wr_M18, ↓wr_M19, pL_H, pV_M1, pV_M2, pV_M3, pV_M4, pV_M5, pV_M6, pV_M13, pV_M22, pV_M23, pV_M24, pV_M25, pV_M27, pV_M28, pV_M29, pV_M30, pV_M31, pV_M32, pV_M33, pV_M34, pV_M35, pV_M40, pV_M41, pV_M42, pV_M43, rd_M1, rd_M2, rd_M3, rd_M4, rd_M5, rd_M6, rd_M7, rd_M8, rd_M9, rd_M10, rd_M11, rd_M12, rd_M13, rd_M14, rd_M15, rd_M16, rd_M17, rd_M18, rd_M19, wr_M1, wr_M2, wr_M3, wr_M4, wr_M5, wr_M6, wr_M7, wr_M8, wr_M9, wr_M10, wr_M11, wr_M12, wr_M13, wr_M14, wr_M15, wr_M16, wr_M17, wr_M18, wr_M19, J_l, J_neg, J_add, J_sub, J_mul, J_lt, J_le, J_eq, J_div2, J_rem2, J_shl1, J_orp, J_or, J_and, J_shr, J_ushr, J_max, J_min, J_abs, J_b0, ↓b0_ite, ↓b0_ite2, b0_ite, bI_r, bV_r, b01_ite, ite_true, ite_false, rZ_b, K_l, J_long, M_in, rs_same, rs_ne, rs_rs, ru_same, ru_ne, ne_eq, if_neg]) 0 (by omega) (by omega)
  rw [inW_0, rs_self] at key
  exact key
theorem M_rem13 : qM_remembers_13 LF y (J 1784) (hi y TM g w m) = qM_remembers_42 y (hi y TM g w (rs m 5 (shW (m 5) 14272))) := by
  have key := loopI (S := Int) (fun N t => qM_remembers_13 N y (J t) (hi y TM g w (rs m 5 (shW (m 5) t)))) (fun X => X = qM_remembers_42 y (hi y TM g w (rs m 5 (shW (m 5) 14272)))) (fun t => 1784 ≤ t ∧ t ≤ 14272) (fun t => 14272 - t) (by intro t ht; omega) (fun N t ht ih => by
    show qM_remembers_13_b (qM_remembers_13 N) y (J t) (hi y TM g w (rs m 5 (shW (m 5) t))) = _
    unfold qM_remembers_13_b
    by_cases hc : t < 14272
    · simp (disch := omega) only [↓isO_M, ↓gL_H, ↓pL_H, ↓gI_M1, ↓gI_M2, ↓gI_M3, ↓gI_M4, ↓gI_M5, ↓gI_M6, ↓gI_M13, ↓gI_M22, ↓gI_M23, ↓gI_M24, ↓gI_M25, ↓gI_M27, ↓gI_M28, ↓gI_M29, ↓gI_M30, ↓gI_M31, ↓gI_M32, ↓gI_M33, ↓gI_M34, ↓gI_M35, ↓gI_M40, ↓gI_M41, ↓gI_M42, ↓gI_M43, ↓pV_M1, ↓pV_M2, ↓pV_M3, ↓pV_M4, ↓pV_M5, ↓pV_M6, ↓pV_M13, ↓pV_M22, ↓pV_M23, ↓pV_M24, ↓pV_M25, ↓pV_M27, ↓pV_M28, ↓pV_M29, ↓pV_M30, ↓pV_M31, ↓pV_M32, ↓pV_M33, ↓pV_M34, ↓pV_M35, ↓pV_M40, ↓pV_M41, ↓pV_M42, ↓pV_M43, ↓gR_M0, ↓gR_M7, ↓gR_M8, ↓gR_M9, ↓gR_M10, ↓gR_M11, ↓gR_M12, ↓gR_M14, ↓gR_M15, ↓gR_M16, ↓gR_M17, ↓gR_M18, ↓gR_M19, ↓gR_M20, ↓gR_M21, ↓gR_M36, ↓gR_M37, ↓gR_M38, ↓gR_M39, ↓rd_M1, ↓rd_M2, ↓rd_M3, ↓rd_M4, ↓rd_M5, ↓rd_M6, ↓rd_M7, ↓rd_M8, ↓rd_M9, ↓rd_M10, ↓rd_M11, ↓rd_M12, ↓rd_M13, ↓rd_M14, ↓rd_M15, ↓rd_M16, ↓rd_M17, ↓rd_M18, ↓rd_M19, ↓wr_M1, ↓wr_M2, ↓wr_M3, ↓wr_M4, ↓wr_M5, ↓wr_M6, ↓wr_M7, ↓wr_M8, ↓wr_M9, ↓wr_M10, ↓wr_M11, ↓wr_M12, ↓wr_M13, ↓wr_M14, ↓wr_M15, ↓wr_M16, ↓wr_M17, ↓wr_M18, ↓wr_M19, pL_H, pV_M1, pV_M2, pV_M3, pV_M4, pV_M5, pV_M6, pV_M13, pV_M22, pV_M23, pV_M24, pV_M25, pV_M27, pV_M28, pV_M29, pV_M30, pV_M31, pV_M32, pV_M33, pV_M34, pV_M35, pV_M40, pV_M41, pV_M42, pV_M43, rd_M1, rd_M2, rd_M3, rd_M4, rd_M5, rd_M6, rd_M7, rd_M8, rd_M9, rd_M10, rd_M11, rd_M12, rd_M13, rd_M14, rd_M15, rd_M16, rd_M17, rd_M18, rd_M19, wr_M1, wr_M2, wr_M3, wr_M4, wr_M5, wr_M6, wr_M7, wr_M8, wr_M9, wr_M10, wr_M11, wr_M12, wr_M13, wr_M14, wr_M15, wr_M16, wr_M17, wr_M18, wr_M19, J_l, J_neg, J_add, J_sub, J_mul, J_lt, J_le, J_eq, J_div2, J_rem2, J_shl1, J_orp, J_or, J_and, J_shr, J_ushr, J_max, J_min, J_abs, J_b0, ↓b0_ite, ↓b0_ite2, b0_ite, bI_r, bV_r, b01_ite, ite_true, ite_false, rZ_b, K_l, J_long, M_in, rs_same, rs_ne, rs_rs, ru_same, ru_ne, ne_eq, if_pos, shW_s]
      exact ih (t + 1) (by omega) (by omega)
    · rw [show t = 14272 by omega]
      simp (disch := omega) only [J_l, J_neg, J_add, J_sub, J_mul, J_lt, J_le, J_eq, J_div2, J_rem2, J_shl1, J_orp, J_or, J_and, J_shr, J_ushr, J_max, J_min, J_abs, J_b0, ↓b0_ite, ↓b0_ite2, b0_ite, bI_r, bV_r, b01_ite, ite_true, ite_false, rZ_b, K_l, J_long, M_in, if_neg]) 1784 (by omega) (by omega)
  rw [shW_0, rs_self] at key
  exact key
theorem M_remembers (hu : 0 ≤ m 0 13 ∧ m 0 13 ≤ 8) : ∃ m', qM_remembers y (hi y TM g w m) = rV (hi y TM g w m') ∧ (∀ o, o ≠ 0 → o ≠ 5 → m' o = m o) ∧ (∀ j, j ≠ 13 → m' 0 j = m 0 j) ∧ m' 0 13 = min (m 0 13 + 1) 8 ∧ sameW (m 3) (undoW m' (m' 0 13 - 1)) ∧ ∀ i, 0 ≤ i → i < m' 0 13 - 1 → sameW (undoW m (i + (m 0 13 + 1 - m' 0 13))) (undoW m' i) := by
  unfold qM_remembers
  by_cases h8 : m 0 13 = 8
  · simp (disch := omega) only [↓isO_M, ↓gL_H, ↓pL_H, ↓gI_M1, ↓gI_M2, ↓gI_M3, ↓gI_M4, ↓gI_M5, ↓gI_M6, ↓gI_M13, ↓gI_M22, ↓gI_M23, ↓gI_M24, ↓gI_M25, ↓gI_M27, ↓gI_M28, ↓gI_M29, ↓gI_M30, ↓gI_M31, ↓gI_M32, ↓gI_M33, ↓gI_M34, ↓gI_M35, ↓gI_M40, ↓gI_M41, ↓gI_M42, ↓gI_M43, ↓pV_M1, ↓pV_M2, ↓pV_M3, ↓pV_M4, ↓pV_M5, ↓pV_M6, ↓pV_M13, ↓pV_M22, ↓pV_M23, ↓pV_M24, ↓pV_M25, ↓pV_M27, ↓pV_M28, ↓pV_M29, ↓pV_M30, ↓pV_M31, ↓pV_M32, ↓pV_M33, ↓pV_M34, ↓pV_M35, ↓pV_M40, ↓pV_M41, ↓pV_M42, ↓pV_M43, ↓gR_M0, ↓gR_M7, ↓gR_M8, ↓gR_M9, ↓gR_M10, ↓gR_M11, ↓gR_M12, ↓gR_M14, ↓gR_M15, ↓gR_M16, ↓gR_M17, ↓gR_M18, ↓gR_M19, ↓gR_M20, ↓gR_M21, ↓gR_M36, ↓gR_M37, ↓gR_M38, ↓gR_M39, ↓rd_M1, ↓rd_M2, ↓rd_M3, ↓rd_M4, ↓rd_M5, ↓rd_M6, ↓rd_M7, ↓rd_M8, ↓rd_M9, ↓rd_M10, ↓rd_M11, ↓rd_M12, ↓rd_M13, ↓rd_M14, ↓rd_M15, ↓rd_M16, ↓rd_M17, ↓rd_M18, ↓rd_M19, ↓wr_M1, ↓wr_M2, ↓wr_M3, ↓wr_M4, ↓wr_M5, ↓wr_M6, ↓wr_M7, ↓wr_M8, ↓wr_M9, ↓wr_M10, ↓wr_M11, ↓wr_M12, ↓wr_M13, ↓wr_M14, ↓wr_M15, ↓wr_M16, ↓wr_M17, ↓wr_M18, ↓wr_M19, pL_H, pV_M1, pV_M2, pV_M3, pV_M4, pV_M5, pV_M6, pV_M13, pV_M22, pV_M23, pV_M24, pV_M25, pV_M27, pV_M28, pV_M29, pV_M30, pV_M31, pV_M32, pV_M33, pV_M34, pV_M35, pV_M40, pV_M41, pV_M42, pV_M43, rd_M1, rd_M2, rd_M3, rd_M4, rd_M5, rd_M6, rd_M7, rd_M8, rd_M9, rd_M10, rd_M11, rd_M12, rd_M13, rd_M14, rd_M15, rd_M16, rd_M17, rd_M18, rd_M19, wr_M1, wr_M2, wr_M3, wr_M4, wr_M5, wr_M6, wr_M7, wr_M8, wr_M9, wr_M10, wr_M11, wr_M12, wr_M13, wr_M14, wr_M15, wr_M16, wr_M17, wr_M18, wr_M19, J_l, J_neg, J_add, J_sub, J_mul, J_lt, J_le, J_eq, J_div2, J_rem2, J_shl1, J_orp, J_or, J_and, J_shr, J_ushr, J_max, J_min, J_abs, J_b0, ↓b0_ite, ↓b0_ite2, b0_ite, bI_r, bV_r, b01_ite, ite_true, ite_false, rZ_b, K_l, J_long, M_in, if_pos, M_rem13]
    unfold qM_remembers_42
    simp (disch := omega) only [↓isO_M, ↓gL_H, ↓pL_H, ↓gI_M1, ↓gI_M2, ↓gI_M3, ↓gI_M4, ↓gI_M5, ↓gI_M6, ↓gI_M13, ↓gI_M22, ↓gI_M23, ↓gI_M24, ↓gI_M25, ↓gI_M27, ↓gI_M28, ↓gI_M29, ↓gI_M30, ↓gI_M31, ↓gI_M32, ↓gI_M33, ↓gI_M34, ↓gI_M35, ↓gI_M40, ↓gI_M41, ↓gI_M42, ↓gI_M43, ↓pV_M1, ↓pV_M2, ↓pV_M3, ↓pV_M4, ↓pV_M5, ↓pV_M6, ↓pV_M13, ↓pV_M22, ↓pV_M23, ↓pV_M24, ↓pV_M25, ↓pV_M27, ↓pV_M28, ↓pV_M29, ↓pV_M30, ↓pV_M31, ↓pV_M32, ↓pV_M33, ↓pV_M34, ↓pV_M35, ↓pV_M40, ↓pV_M41, ↓pV_M42, ↓pV_M43, ↓gR_M0, ↓gR_M7, ↓gR_M8, ↓gR_M9, ↓gR_M10, ↓gR_M11, ↓gR_M12, ↓gR_M14, ↓gR_M15, ↓gR_M16, ↓gR_M17, ↓gR_M18, ↓gR_M19, ↓gR_M20, ↓gR_M21, ↓gR_M36, ↓gR_M37, ↓gR_M38, ↓gR_M39, ↓rd_M1, ↓rd_M2, ↓rd_M3, ↓rd_M4, ↓rd_M5, ↓rd_M6, ↓rd_M7, ↓rd_M8, ↓rd_M9, ↓rd_M10, ↓rd_M11, ↓rd_M12, ↓rd_M13, ↓rd_M14, ↓rd_M15, ↓rd_M16, ↓rd_M17, ↓rd_M18, ↓rd_M19, ↓wr_M1, ↓wr_M2, ↓wr_M3, ↓wr_M4, ↓wr_M5, ↓wr_M6, ↓wr_M7, ↓wr_M8, ↓wr_M9, ↓wr_M10, ↓wr_M11, ↓wr_M12, ↓wr_M13, ↓wr_M14, ↓wr_M15, ↓wr_M16, ↓wr_M17, ↓wr_M18, ↓wr_M19, pL_H, pV_M1, pV_M2, pV_M3, pV_M4, pV_M5, pV_M6, pV_M13, pV_M22, pV_M23, pV_M24, pV_M25, pV_M27, pV_M28, pV_M29, pV_M30, pV_M31, pV_M32, pV_M33, pV_M34, pV_M35, pV_M40, pV_M41, pV_M42, pV_M43, rd_M1, rd_M2, rd_M3, rd_M4, rd_M5, rd_M6, rd_M7, rd_M8, rd_M9, rd_M10, rd_M11, rd_M12, rd_M13, rd_M14, rd_M15, rd_M16, rd_M17, rd_M18, rd_M19, wr_M1, wr_M2, wr_M3, wr_M4, wr_M5, wr_M6, wr_M7, wr_M8, wr_M9, wr_M10, wr_M11, wr_M12, wr_M13, wr_M14, wr_M15, wr_M16, wr_M17, wr_M18, wr_M19, J_l, J_neg, J_add, J_sub, J_mul, J_lt, J_le, J_eq, J_div2, J_rem2, J_shl1, J_orp, J_or, J_and, J_shr, J_ushr, J_max, J_min, J_abs, J_b0, ↓b0_ite, ↓b0_ite2, b0_ite, bI_r, bV_r, b01_ite, ite_true, ite_false, rZ_b, K_l, J_long, M_in, rs_same, rs_ne, rs_rs, ru_same, ru_ne, ne_eq]
    rw [M_rem54 (by simp (disch := omega) only [rs_same, rs_ne, rs_rs, ru_same, ru_ne, ne_eq]; omega)]
    refine ⟨_, rfl, fun o o1 o2 => ?_, fun j hj => ?_, ?_, ?_, ?_⟩
    · simp (disch := omega) only [rs_same, rs_ne, rs_rs, ru_same, ru_ne, ne_eq]
    · simp (disch := omega) only [rs_same, rs_ne, rs_rs, ru_same, ru_ne, ne_eq]
    · simp (disch := omega) only [rs_same, rs_ne, rs_rs, ru_same, ru_ne, ne_eq]
      omega
    · intro j j1 j2
      unfold undoW
      simp (disch := omega) only [rs_same, rs_ne, rs_rs, ru_same, ru_ne, ne_eq]
      unfold inW
      rw [if_pos (by omega), h8, show 1784 * (8 - 1 + 1 - 1) + j - 1784 * (8 - 1) = j by omega]
    · simp (disch := omega) only [rs_same, rs_ne, rs_rs, ru_same, ru_ne, ne_eq]
      intro i i1 i2 j j1 j2
      unfold undoW
      simp (disch := omega) only [rs_same, rs_ne, rs_rs, ru_same, ru_ne, ne_eq]
      unfold inW shW
      rw [if_neg (by omega), if_pos (by omega), h8, show 1784 * (i + (8 + 1 - (8 - 1 + 1))) + j = 1784 * i + j + 1784 by omega]
  · simp (disch := omega) only [↓isO_M, ↓gL_H, ↓pL_H, ↓gI_M1, ↓gI_M2, ↓gI_M3, ↓gI_M4, ↓gI_M5, ↓gI_M6, ↓gI_M13, ↓gI_M22, ↓gI_M23, ↓gI_M24, ↓gI_M25, ↓gI_M27, ↓gI_M28, ↓gI_M29, ↓gI_M30, ↓gI_M31, ↓gI_M32, ↓gI_M33, ↓gI_M34, ↓gI_M35, ↓gI_M40, ↓gI_M41, ↓gI_M42, ↓gI_M43, ↓pV_M1, ↓pV_M2, ↓pV_M3, ↓pV_M4, ↓pV_M5, ↓pV_M6, ↓pV_M13, ↓pV_M22, ↓pV_M23, ↓pV_M24, ↓pV_M25, ↓pV_M27, ↓pV_M28, ↓pV_M29, ↓pV_M30, ↓pV_M31, ↓pV_M32, ↓pV_M33, ↓pV_M34, ↓pV_M35, ↓pV_M40, ↓pV_M41, ↓pV_M42, ↓pV_M43, ↓gR_M0, ↓gR_M7, ↓gR_M8, ↓gR_M9, ↓gR_M10, ↓gR_M11, ↓gR_M12, ↓gR_M14, ↓gR_M15, ↓gR_M16, ↓gR_M17, ↓gR_M18, ↓gR_M19, ↓gR_M20, ↓gR_M21, ↓gR_M36, ↓gR_M37, ↓gR_M38, ↓gR_M39, ↓rd_M1, ↓rd_M2, ↓rd_M3, ↓rd_M4, ↓rd_M5, ↓rd_M6, ↓rd_M7, ↓rd_M8, ↓rd_M9, ↓rd_M10, ↓rd_M11, ↓rd_M12, ↓rd_M13, ↓rd_M14, ↓rd_M15, ↓rd_M16, ↓rd_M17, ↓rd_M18, ↓rd_M19, ↓wr_M1, ↓wr_M2, ↓wr_M3, ↓wr_M4, ↓wr_M5, ↓wr_M6, ↓wr_M7, ↓wr_M8, ↓wr_M9, ↓wr_M10, ↓wr_M11, ↓wr_M12, ↓wr_M13, ↓wr_M14, ↓wr_M15, ↓wr_M16, ↓wr_M17, ↓wr_M18, ↓wr_M19, pL_H, pV_M1, pV_M2, pV_M3, pV_M4, pV_M5, pV_M6, pV_M13, pV_M22, pV_M23, pV_M24, pV_M25, pV_M27, pV_M28, pV_M29, pV_M30, pV_M31, pV_M32, pV_M33, pV_M34, pV_M35, pV_M40, pV_M41, pV_M42, pV_M43, rd_M1, rd_M2, rd_M3, rd_M4, rd_M5, rd_M6, rd_M7, rd_M8, rd_M9, rd_M10, rd_M11, rd_M12, rd_M13, rd_M14, rd_M15, rd_M16, rd_M17, rd_M18, rd_M19, wr_M1, wr_M2, wr_M3, wr_M4, wr_M5, wr_M6, wr_M7, wr_M8, wr_M9, wr_M10, wr_M11, wr_M12, wr_M13, wr_M14, wr_M15, wr_M16, wr_M17, wr_M18, wr_M19, J_l, J_neg, J_add, J_sub, J_mul, J_lt, J_le, J_eq, J_div2, J_rem2, J_shl1, J_orp, J_or, J_and, J_shr, J_ushr, J_max, J_min, J_abs, J_b0, ↓b0_ite, ↓b0_ite2, b0_ite, bI_r, bV_r, b01_ite, ite_true, ite_false, rZ_b, K_l, J_long, M_in, if_neg]
    rw [M_rem54 (by omega)]
    refine ⟨_, rfl, fun o o1 o2 => ?_, fun j hj => ?_, ?_, ?_, ?_⟩
    · simp (disch := omega) only [rs_same, rs_ne, rs_rs, ru_same, ru_ne, ne_eq]
    · simp (disch := omega) only [rs_same, rs_ne, rs_rs, ru_same, ru_ne, ne_eq]
    · simp (disch := omega) only [rs_same, rs_ne, rs_rs, ru_same, ru_ne, ne_eq]
      omega
    · intro j j1 j2
      unfold undoW
      simp (disch := omega) only [rs_same, rs_ne, rs_rs, ru_same, ru_ne, ne_eq]
      unfold inW
      rw [if_pos (by omega), show 1784 * (m 0 13 + 1 - 1) + j - 1784 * m 0 13 = j by omega]
    · simp (disch := omega) only [rs_same, rs_ne, rs_rs, ru_same, ru_ne, ne_eq]
      intro i i1 i2 j j1 j2
      unfold undoW
      simp (disch := omega) only [rs_same, rs_ne, rs_rs, ru_same, ru_ne, ne_eq]
      unfold inW
      rw [if_neg (by omega), show i + (m 0 13 + 1 - (m 0 13 + 1)) = i by omega]
theorem M_manyLabels (hlb : lblOk (m 3)) : qM_manyLabels y (hi y TM g w m) = rI (J (rk (m 3) 1600)) (hi y TM g w m) := by
  refine loopI (S := Int) (fun N t => qM_manyLabels_4 N y (J (rk (m 3) t)) (J t) (hi y TM g w m)) (fun X => X = rI (J (rk (m 3) 1600)) (hi y TM g w m)) (fun t => 0 ≤ t ∧ t ≤ 1600) (fun t => 1600 - t) (by intro t ht; omega) (fun N t ht ih => ?_) 0 (by omega) (by omega)
  show qM_manyLabels_4_b (qM_manyLabels_4 N) y (J (rk (m 3) t)) (J t) (hi y TM g w m) = _
  unfold qM_manyLabels_4_b
  by_cases hc : t < 1600
  · have hb := hlb t ht.1 hc
    simp (disch := omega) only [↓isO_M, ↓gL_H, ↓pL_H, ↓gI_M1, ↓gI_M2, ↓gI_M3, ↓gI_M4, ↓gI_M5, ↓gI_M6, ↓gI_M13, ↓gI_M22, ↓gI_M23, ↓gI_M24, ↓gI_M25, ↓gI_M27, ↓gI_M28, ↓gI_M29, ↓gI_M30, ↓gI_M31, ↓gI_M32, ↓gI_M33, ↓gI_M34, ↓gI_M35, ↓gI_M40, ↓gI_M41, ↓gI_M42, ↓gI_M43, ↓pV_M1, ↓pV_M2, ↓pV_M3, ↓pV_M4, ↓pV_M5, ↓pV_M6, ↓pV_M13, ↓pV_M22, ↓pV_M23, ↓pV_M24, ↓pV_M25, ↓pV_M27, ↓pV_M28, ↓pV_M29, ↓pV_M30, ↓pV_M31, ↓pV_M32, ↓pV_M33, ↓pV_M34, ↓pV_M35, ↓pV_M40, ↓pV_M41, ↓pV_M42, ↓pV_M43, ↓gR_M0, ↓gR_M7, ↓gR_M8, ↓gR_M9, ↓gR_M10, ↓gR_M11, ↓gR_M12, ↓gR_M14, ↓gR_M15, ↓gR_M16, ↓gR_M17, ↓gR_M18, ↓gR_M19, ↓gR_M20, ↓gR_M21, ↓gR_M36, ↓gR_M37, ↓gR_M38, ↓gR_M39, ↓rd_M1, ↓rd_M2, ↓rd_M3, ↓rd_M4, ↓rd_M5, ↓rd_M6, ↓rd_M7, ↓rd_M8, ↓rd_M9, ↓rd_M10, ↓rd_M11, ↓rd_M12, ↓rd_M13, ↓rd_M14, ↓rd_M15, ↓rd_M16, ↓rd_M17, ↓rd_M18, ↓rd_M19, ↓wr_M1, ↓wr_M2, ↓wr_M3, ↓wr_M4, ↓wr_M5, ↓wr_M6, ↓wr_M7, ↓wr_M8, ↓wr_M9, ↓wr_M10, ↓wr_M11, ↓wr_M12, ↓wr_M13, ↓wr_M14, ↓wr_M15, ↓wr_M16, ↓wr_M17, ↓wr_M18, ↓wr_M19, pL_H, pV_M1, pV_M2, pV_M3, pV_M4, pV_M5, pV_M6, pV_M13, pV_M22, pV_M23, pV_M24, pV_M25, pV_M27, pV_M28, pV_M29, pV_M30, pV_M31, pV_M32, pV_M33, pV_M34, pV_M35, pV_M40, pV_M41, pV_M42, pV_M43, rd_M1, rd_M2, rd_M3, rd_M4, rd_M5, rd_M6, rd_M7, rd_M8, rd_M9, rd_M10, rd_M11, rd_M12, rd_M13, rd_M14, rd_M15, rd_M16, rd_M17, rd_M18, rd_M19, wr_M1, wr_M2, wr_M3, wr_M4, wr_M5, wr_M6, wr_M7, wr_M8, wr_M9, wr_M10, wr_M11, wr_M12, wr_M13, wr_M14, wr_M15, wr_M16, wr_M17, wr_M18, wr_M19, J_l, J_neg, J_add, J_sub, J_mul, J_lt, J_le, J_eq, J_div2, J_rem2, J_shl1, J_orp, J_or, J_and, J_shr, J_ushr, J_max, J_min, J_abs, J_b0, ↓b0_ite, ↓b0_ite2, b0_ite, bI_r, bV_r, b01_ite, ite_true, ite_false, rZ_b, K_l, J_long, M_in, if_pos, M_labelOf]
    have := ih (t + 1) (by omega) (by omega)
    by_cases hl : lbl (m 3) t < 0
    · rw [rk_s0 ht.1 hl] at this
      rw [if_pos hl, Int.add_zero]
      exact this
    · rw [rk_s1 ht.1 (by omega)] at this
      rw [if_neg hl]
      exact this
  · rw [show t = 1600 by omega]
    simp (disch := omega) only [J_l, J_neg, J_add, J_sub, J_mul, J_lt, J_le, J_eq, J_div2, J_rem2, J_shl1, J_orp, J_or, J_and, J_shr, J_ushr, J_max, J_min, J_abs, J_b0, ↓b0_ite, ↓b0_ite2, b0_ite, bI_r, bV_r, b01_ite, ite_true, ite_false, rZ_b, K_l, J_long, M_in, if_neg]
/-! plans into the history -/
theorem HistI_fr (h : HistI s m) (hf : ∀ o, o = 66 ∨ (68 ≤ o ∧ o < 300) → s' o = s o) (h5 : m' 5 = m 5) (h2 : m' 2 = m 2) (h3 : m' 0 3 = m 0 3) (h4 : m' 0 4 = m 0 4) (h55 : m' 0 5 = m 0 5) (h6 : m' 0 6 = m 0 6) (h13 : m' 0 13 = m 0 13) (hn : m 0 6 ≤ 8) : HistI s' m' := by
  obtain ⟨x1, x2, x3, x4⟩ := h
  have eW : ∀ i, undoW m' i = undoW m i := fun i => by unfold undoW; rw [h5]
  unfold HistI
  rw [hf 66 (Or.inl rfl), h13, h3, h4, h55, h6, h2]
  refine ⟨x1, x2, x3, fun i i1 i2 => ?_⟩
  rw [eW]
  exact PlanI_fr hn (fun o o1 o2 => hf o (by omega)) (x4 i i1 i2)
theorem C_push (hn : 0 ≤ n ∧ n ≤ 8) (hP : PlanI s wd hg mt n nm W 6) (h0 : 0 ≤ s 66 0 ∧ s 66 0 ≤ 8) (h1 : 0 ≤ s 66 1 ∧ s 66 1 < 8) : ∃ s', qH_push (z + 66) (z + 6) (hi z TD g w s) = rV (hi z TD g w s') ∧ (∀ o, o ≠ 66 → (o < 68 + 29 * (s 66 1).toNat ∨ 68 + 29 * (s 66 1).toNat + 28 < o) → s' o = s o) ∧ s' 66 0 = min (s 66 0 + 1) 8 ∧ s' 66 1 = (s 66 1 + 1) % 8 ∧ PlanI s' wd hg mt n nm W (68 + 29 * (s 66 1).toNat) := by
  have hk := rk_160 hn hP.1.1 hP.1.2.1
  have hpl := isPl_H (j := (s 66 1).toNat) (by omega)
  obtain ⟨s1, e1, e2, e3⟩ := C_copyPlan (z := z) (g := g) (w := w) (a := 68 + 29 * (s 66 1).toNat) (b := 6) hpl isPl_6 (by omega) hn (fun l a b => (hP.1.1 l a b).1) hk hP.2
  have f66 : s1 66 = s 66 := e2 66 (by omega)
  unfold qH_push
  simp (disch := first | assumption | omega) only [↓gR_D0, ↓gR_D1, ↓gR_D2, ↓gR_D3, ↓gR_D4, ↓gR_D5, ↓gR_D6, ↓gR_D7, ↓gR_D8, ↓gR_D9, ↓gR_D10, ↓gI_D11, ↓pV_D11, ↓isO_D, ↓gI_T0, ↓pV_T0, ↓gR_T1, ↓isO_T, ↓rd_T2, ↓wr_T2, ↓gI_U0, ↓pV_U0, ↓gR_U1, ↓isO_U, ↓rd_U2, ↓wr_U2, ↓gI_Ps0, ↓pV_Ps0, ↓gI_Ps1, ↓pV_Ps1, ↓gI_Ps2, ↓pV_Ps2, ↓gI_Ps3, ↓pV_Ps3, ↓gI_Ps4, ↓pV_Ps4, ↓isO_Ps, ↓gI_N0, ↓pV_N0, ↓gI_N1, ↓pV_N1, ↓gI_N2, ↓pV_N2, ↓gI_N3, ↓pV_N3, ↓gR_N4, ↓gR_N5, ↓isO_N, ↓rd_NL, ↓gI_NB0, ↓pV_NB0, ↓gR_NB1, ↓gR_NB2, ↓isO_NB, ↓rd_NC, ↓wr_NC, ↓ln_NC, ↓rd_NP, ↓wr_NP, ↓ln_NP, ↓gI_V0, ↓pV_V0, ↓gI_V1, ↓pV_V1, ↓gI_V2, ↓pV_V2, ↓gI_V3, ↓pV_V3, ↓gR_V4, ↓gR_V5, ↓isO_V, ↓rd_VL, ↓gI_VB0, ↓pV_VB0, ↓gR_VB1, ↓gR_VB2, ↓isO_VB, ↓rd_VC, ↓wr_VC, ↓ln_VC, ↓rd_VP, ↓wr_VP, ↓ln_VP, ↓rd_SL, ↓rd_KP, ↓wr_KP, ↓gI_H0, ↓pV_H0, ↓gI_H1, ↓pV_H1, ↓gR_H2, ↓isO_H, ↓rd_HP, ↓gI_B0, ↓pV_B0, ↓gI_B1, ↓pV_B1, ↓gR_B2, ↓gR_B3, ↓gR_B4, ↓gR_B5, ↓gR_B6, ↓gR_B7, ↓gR_B8, ↓isO_B, ↓rd_B301, ↓wr_B301, ↓ln_B301, ↓rd_B302, ↓wr_B302, ↓ln_B302, ↓rd_B303, ↓wr_B303, ↓ln_B303, ↓rd_B304, ↓wr_B304, ↓ln_B304, ↓rd_B305, ↓wr_B305, ↓ln_B305, ↓rd_B306, ↓wr_B306, ↓ln_B306, ↓rd_B307, ↓wr_B307, ↓ln_B307, ↓gR_Tv, ↓isO_Tv, ↓rd_Tv9, ↓wr_Tv9, ↓ln_Tv9, pV_D11, pV_T0, rd_T2, wr_T2, pV_U0, rd_U2, wr_U2, pV_Ps0, pV_Ps1, pV_Ps2, pV_Ps3, pV_Ps4, pV_N0, pV_N1, pV_N2, pV_N3, rd_NL, pV_NB0, rd_NC, wr_NC, rd_NP, wr_NP, pV_V0, pV_V1, pV_V2, pV_V3, rd_VL, pV_VB0, rd_VC, wr_VC, rd_VP, wr_VP, rd_SL, rd_KP, wr_KP, pV_H0, pV_H1, rd_HP, pV_B0, pV_B1, rd_B301, wr_B301, rd_B302, wr_B302, rd_B303, wr_B303, rd_B304, wr_B304, rd_B305, wr_B305, rd_B306, wr_B306, rd_B307, wr_B307, rd_Tv9, wr_Tv9, ↓isO_P, ↓gI_P0, ↓pV_P0, ↓gI_P1, ↓pV_P1, ↓gI_P2, ↓pV_P2, ↓gI_P3, ↓pV_P3, ↓gR_P4, ↓gR_P5, ↓rd_PL, pV_P0, pV_P1, pV_P2, pV_P3, rd_PL, J_l, J_neg, J_add, J_sub, J_mul, J_lt, J_le, J_eq, J_div2, J_rem2, J_shl1, J_orp, J_or, J_and, J_shr, J_ushr, J_max, J_min, J_abs, J_b0, ↓b0_ite, ↓b0_ite2, b0_ite, bI_r, bV_r, b01_ite, ite_true, ite_false, rZ_b, K_l, J_long, M_in, rs_same, rs_ne, rs_rs, ru_same, ru_ne, ne_eq, e1, f66]
  refine ⟨_, rfl, fun o o1 o2 => ?_, ?_, ?_, hP.1, PlV_fr hn.2 (fun o o1 o2 => ?_) e3⟩
  · rw [rs_ne o1, e2 o o2]
  · simp (disch := omega) only [rs_same, rs_ne, rs_rs, ru_same, ru_ne, ne_eq]
  · simp (disch := omega) only [rs_same, rs_ne, rs_rs, ru_same, ru_ne, ne_eq]
  · rw [rs_ne (by omega)]
/-- the history after both have remembered -/
theorem hist_push (hn : 0 ≤ m 0 6 ∧ m 0 6 ≤ 8) (hI : HistI s m) (e2 : ∀ o, o ≠ 66 → (o < 68 + 29 * (s 66 1).toNat ∨ 68 + 29 * (s 66 1).toNat + 28 < o) → s' o = s o) (e3 : s' 66 0 = min (s 66 0 + 1) 8) (e4 : s' 66 1 = (s 66 1 + 1) % 8) (e5 : PlanI s' (m 0 3) (m 0 4) (m 0 5) (m 0 6) (m 2) (m 3) (68 + 29 * (s 66 1).toNat)) (f2 : ∀ o, o ≠ 0 → o ≠ 5 → m' o = m o) (f3 : ∀ j, j ≠ 13 → m' 0 j = m 0 j) (f4 : m' 0 13 = min (m 0 13 + 1) 8) (f5 : sameW (m 3) (undoW m' (m' 0 13 - 1))) (f6 : ∀ i, 0 ≤ i → i < m' 0 13 - 1 → sameW (undoW m (i + (m 0 13 + 1 - m' 0 13))) (undoW m' i)) : HistI s' m' := by
  obtain ⟨x1, x2, x3, x4⟩ := hI
  refine ⟨?_, ?_, ?_, fun i i1 i2 => ?_⟩
  · rw [e3, f4, x1]
  · rw [f4]; omega
  · rw [e4]; omega
  · rw [f3 3 (by decide), f3 4 (by decide), f3 5 (by decide), f3 6 (by decide), f2 2 (by decide) (by decide), e4]
    by_cases hl : i = m' 0 13 - 1
    · have ei : ((s 66 1 + 1) % 8 - m' 0 13 + i) % 8 = s 66 1 := by omega
      rw [ei, hl]
      exact PlanI_c f5 hn.2 e5
    · have y1 := x4 (i + (m 0 13 + 1 - m' 0 13)) (by omega) (by omega)
      have ei : ((s 66 1 + 1) % 8 - m' 0 13 + i) % 8 = (s 66 1 - m 0 13 + (i + (m 0 13 + 1 - m' 0 13))) % 8 := by omega
      rw [ei]
      have hne : (s 66 1 - m 0 13 + (i + (m 0 13 + 1 - m' 0 13))) % 8 ≠ s 66 1 := by omega
      refine PlanI_c (f6 i i1 (by omega)) hn.2 (PlanI_fr hn.2 (fun o o1 o2 => e2 o (by omega) (by omega)) y1)
/-- both sides remember -/
theorem push_both (hH : Hdr (m 0 3) (m 0 4) (m 0 5) (m 0 6)) (hI : HistI s m) (hP : PlanI s (m 0 3) (m 0 4) (m 0 5) (m 0 6) (m 2) (m 3) 6) : ∃ s' m', qH_push (z + 66) (z + 6) (hi z TD g w s) = rV (hi z TD g w s') ∧ qM_remembers y (hi y TM g' w' m) = rV (hi y TM g' w' m') ∧ (∀ o, o ≠ 66 → (o < 68 ∨ 299 < o) → s' o = s o) ∧ (∀ o, o ≠ 0 → o ≠ 5 → m' o = m o) ∧ (∀ j, j ≠ 13 → m' 0 j = m 0 j) ∧ HistI s' m' := by
  have hn := hH.2.2.2
  have hx := hI
  obtain ⟨x1, x2, x3, x4⟩ := hx
  obtain ⟨s', e1, e2, e3, e4, e5⟩ := C_push (z := z) (g := g) (w := w) hn hP (by omega) x3
  obtain ⟨m', f1, f2, f3, f4, f5, f6⟩ := M_remembers (y := y) (g := g') (w := w') (m := m) x2
  exact ⟨s', m', e1, f1, fun o o1 o2 => e2 o o1 (by omega), f2, f3, hist_push hn hI e2 e3 e4 e5 f2 f3 f4 f5 f6⟩
end MP
