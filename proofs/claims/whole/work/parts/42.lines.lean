/-! why a line cannot be -/
section FA
variable {z y : Nat} {T : Nat → Option Sh} {g : XH} {w : Int64} {s m : CT} {W : Int → Int} {l p r c v : Int} {a : Nat} {h : XH}
def bad (W : Int → Int) (l c r : Int) : Prop := wy W l r < 0 ∨ (1 ≤ r ∧ c < trn (wy W l (r - 1)) (wy W l r))
def crk (W : Int → Int) (l c : Int) : Prop := ∃ r, 0 ≤ r ∧ r < cN W l - 1 ∧ bad W l c r
noncomputable def flt (W : Int → Int) (l c : Int) : Int := @ite Int (crk W l c) (Classical.propDecidable _) (-3) (if len W l < cT W l - 1 then -4 else 0)
theorem flt_crk (h : crk W l c) : flt W l c = -3 := if_pos h
theorem flt_ok (h : ¬crk W l c) : flt W l c = if len W l < cT W l - 1 then -4 else 0 := if_neg h
theorem flt_0 (hb : LB W l) (h : 0 ≤ flt W l c) : LG W l := by
  by_cases hc : crk W l c
  · rw [flt_crk hc] at h; omega
  · rw [flt_ok hc] at h
    refine ⟨hb, fun r h1 h2 => ?_, ?_⟩
    · by_cases h3 : 0 ≤ wy W l r
      · exact h3
      · exact absurd ⟨r, h1, h2, Or.inl (by omega)⟩ hc
    · split at h <;> omega
theorem flt_val : flt W l c = -3 ∨ flt W l c = -4 ∨ flt W l c = 0 := by
  by_cases hc : crk W l c
  · rw [flt_crk hc]; omega
  · rw [flt_ok hc]; split <;> omega
theorem M_faultOf (h1 : 0 ≤ l ∧ l < 8) (h2 : LB (m 3) l) (h3 : 0 ≤ m 0 5 ∧ m 0 5 ≤ 100) : qM_faultOf y (J l) (hi y TM g w m) = rI (J (flt (m 3) l (m 0 5))) (hi y TM g w m) := by
  have b0 := h2.1
  have b1 := h2.2.1
  have b2 := len_bd h2
  refine loopI (S := Int) (fun k r => qM_faultOf_2 k y (J l) (J r) (hi y TM g w m)) (fun X => X = rI (J (flt (m 3) l (m 0 5))) (hi y TM g w m)) (fun r => (0 ≤ r ∧ r ≤ cN (m 3) l - 1) ∧ ∀ q, 0 ≤ q → q < r → ¬bad (m 3) l (m 0 5) q) (fun r => cN (m 3) l - 1 - r) (by intro r hr; omega) (fun k r hr ih => ?_) 0 ⟨by omega, fun q h4 h5 => by omega⟩ (by omega)
  obtain ⟨hr, hq⟩ := hr
  have v1 := wy_le (W := m 3) (l := l) (r := r)
  have v2 := wy_le (W := m 3) (l := l) (r := r - 1)
  show qM_faultOf_2_b (qM_faultOf_2 k) y (J l) (J r) (hi y TM g w m) = _
  unfold qM_faultOf_2_b
  simp (disch := omega) only [↓isO_M, ↓gL_H, ↓pL_H, ↓gI_M1, ↓gI_M2, ↓gI_M3, ↓gI_M4, ↓gI_M5, ↓gI_M6, ↓gI_M13, ↓gI_M22, ↓gI_M23, ↓gI_M24, ↓gI_M25, ↓gI_M27, ↓gI_M28, ↓gI_M29, ↓gI_M30, ↓gI_M31, ↓gI_M32, ↓gI_M33, ↓gI_M34, ↓gI_M35, ↓gI_M40, ↓gI_M41, ↓gI_M42, ↓gI_M43, ↓pV_M1, ↓pV_M2, ↓pV_M3, ↓pV_M4, ↓pV_M5, ↓pV_M6, ↓pV_M13, ↓pV_M22, ↓pV_M23, ↓pV_M24, ↓pV_M25, ↓pV_M27, ↓pV_M28, ↓pV_M29, ↓pV_M30, ↓pV_M31, ↓pV_M32, ↓pV_M33, ↓pV_M34, ↓pV_M35, ↓pV_M40, ↓pV_M41, ↓pV_M42, ↓pV_M43, ↓gR_M0, ↓gR_M7, ↓gR_M8, ↓gR_M9, ↓gR_M10, ↓gR_M11, ↓gR_M12, ↓gR_M14, ↓gR_M15, ↓gR_M16, ↓gR_M17, ↓gR_M18, ↓gR_M19, ↓gR_M20, ↓gR_M21, ↓gR_M36, ↓gR_M37, ↓gR_M38, ↓gR_M39, ↓rd_M1, ↓rd_M2, ↓rd_M3, ↓rd_M4, ↓rd_M5, ↓rd_M6, ↓rd_M7, ↓rd_M8, ↓rd_M9, ↓rd_M10, ↓rd_M11, ↓rd_M12, ↓rd_M13, ↓rd_M14, ↓rd_M15, ↓rd_M16, ↓rd_M17, ↓rd_M18, ↓rd_M19, ↓wr_M1, ↓wr_M2, ↓wr_M3, ↓wr_M4, ↓wr_M5, ↓wr_M6, ↓wr_M7, ↓wr_M8, ↓wr_M9, ↓wr_M10, ↓wr_M11, ↓wr_M12, ↓wr_M13, ↓wr_M14, ↓wr_M15, ↓wr_M16, ↓wr_M17, ↓wr_M18, ↓wr_M19, pL_H, pV_M1, pV_M2, pV_M3, pV_M4, pV_M5, pV_M6, pV_M13, pV_M22, pV_M23, pV_M24, pV_M25, pV_M27, pV_M28, pV_M29, pV_M30, pV_M31, pV_M32, pV_M33, pV_M34, pV_M35, pV_M40, pV_M41, pV_M42, pV_M43, rd_M1, rd_M2, rd_M3, rd_M4, rd_M5, rd_M6, rd_M7, rd_M8, rd_M9, rd_M10, rd_M11, rd_M12, rd_M13, rd_M14, rd_M15, rd_M16, rd_M17, rd_M18, rd_M19, wr_M1, wr_M2, wr_M3, wr_M4, wr_M5, wr_M6, wr_M7, wr_M8, wr_M9, wr_M10, wr_M11, wr_M12, wr_M13, wr_M14, wr_M15, wr_M16, wr_M17, wr_M18, wr_M19, J_l, J_neg, J_add, J_sub, J_mul, J_lt, J_le, J_eq, J_div2, J_rem2, J_shl1, J_orp, J_or, J_and, J_shr, J_ushr, J_max, J_min, J_abs, J_b0, ↓b0_ite, ↓b0_ite2, b0_ite, bI_r, bV_r, b01_ite, rZ_b, K_l, J_long, M_in, M_oN]
  split
  · have hstep : ¬bad (m 3) l (m 0 5) r → qM_faultOf_2 k y (J l) (J (r + 1)) (hi y TM g w m) = rI (J (flt (m 3) l (m 0 5))) (hi y TM g w m) := fun hb => ih (r + 1) ⟨by omega, fun q h4 h5 => by
      by_cases h6 : q < r
      · exact hq q h4 h6
      · rw [show q = r by omega]; exact hb⟩ (by omega)
    by_cases c1 : wy (m 3) l r < 0
    · rw [flt_crk ⟨r, by omega, by omega, Or.inl c1⟩]
      simp (disch := first | assumption | omega) only [↓isO_M, ↓gL_H, ↓pL_H, ↓gI_M1, ↓gI_M2, ↓gI_M3, ↓gI_M4, ↓gI_M5, ↓gI_M6, ↓gI_M13, ↓gI_M22, ↓gI_M23, ↓gI_M24, ↓gI_M25, ↓gI_M27, ↓gI_M28, ↓gI_M29, ↓gI_M30, ↓gI_M31, ↓gI_M32, ↓gI_M33, ↓gI_M34, ↓gI_M35, ↓gI_M40, ↓gI_M41, ↓gI_M42, ↓gI_M43, ↓pV_M1, ↓pV_M2, ↓pV_M3, ↓pV_M4, ↓pV_M5, ↓pV_M6, ↓pV_M13, ↓pV_M22, ↓pV_M23, ↓pV_M24, ↓pV_M25, ↓pV_M27, ↓pV_M28, ↓pV_M29, ↓pV_M30, ↓pV_M31, ↓pV_M32, ↓pV_M33, ↓pV_M34, ↓pV_M35, ↓pV_M40, ↓pV_M41, ↓pV_M42, ↓pV_M43, ↓gR_M0, ↓gR_M7, ↓gR_M8, ↓gR_M9, ↓gR_M10, ↓gR_M11, ↓gR_M12, ↓gR_M14, ↓gR_M15, ↓gR_M16, ↓gR_M17, ↓gR_M18, ↓gR_M19, ↓gR_M20, ↓gR_M21, ↓gR_M36, ↓gR_M37, ↓gR_M38, ↓gR_M39, ↓rd_M1, ↓rd_M2, ↓rd_M3, ↓rd_M4, ↓rd_M5, ↓rd_M6, ↓rd_M7, ↓rd_M8, ↓rd_M9, ↓rd_M10, ↓rd_M11, ↓rd_M12, ↓rd_M13, ↓rd_M14, ↓rd_M15, ↓rd_M16, ↓rd_M17, ↓rd_M18, ↓rd_M19, ↓wr_M1, ↓wr_M2, ↓wr_M3, ↓wr_M4, ↓wr_M5, ↓wr_M6, ↓wr_M7, ↓wr_M8, ↓wr_M9, ↓wr_M10, ↓wr_M11, ↓wr_M12, ↓wr_M13, ↓wr_M14, ↓wr_M15, ↓wr_M16, ↓wr_M17, ↓wr_M18, ↓wr_M19, pL_H, pV_M1, pV_M2, pV_M3, pV_M4, pV_M5, pV_M6, pV_M13, pV_M22, pV_M23, pV_M24, pV_M25, pV_M27, pV_M28, pV_M29, pV_M30, pV_M31, pV_M32, pV_M33, pV_M34, pV_M35, pV_M40, pV_M41, pV_M42, pV_M43, rd_M1, rd_M2, rd_M3, rd_M4, rd_M5, rd_M6, rd_M7, rd_M8, rd_M9, rd_M10, rd_M11, rd_M12, rd_M13, rd_M14, rd_M15, rd_M16, rd_M17, rd_M18, rd_M19, wr_M1, wr_M2, wr_M3, wr_M4, wr_M5, wr_M6, wr_M7, wr_M8, wr_M9, wr_M10, wr_M11, wr_M12, wr_M13, wr_M14, wr_M15, wr_M16, wr_M17, wr_M18, wr_M19, J_l, J_neg, J_add, J_sub, J_mul, J_lt, J_le, J_eq, J_div2, J_rem2, J_shl1, J_orp, J_or, J_and, J_shr, J_ushr, J_max, J_min, J_abs, J_b0, ↓b0_ite, ↓b0_ite2, b0_ite, bI_r, bV_r, b01_ite, rZ_b, K_l, J_long, M_in, M_wayOf, if_pos]
    · simp (disch := first | assumption | omega) only [↓isO_M, ↓gL_H, ↓pL_H, ↓gI_M1, ↓gI_M2, ↓gI_M3, ↓gI_M4, ↓gI_M5, ↓gI_M6, ↓gI_M13, ↓gI_M22, ↓gI_M23, ↓gI_M24, ↓gI_M25, ↓gI_M27, ↓gI_M28, ↓gI_M29, ↓gI_M30, ↓gI_M31, ↓gI_M32, ↓gI_M33, ↓gI_M34, ↓gI_M35, ↓gI_M40, ↓gI_M41, ↓gI_M42, ↓gI_M43, ↓pV_M1, ↓pV_M2, ↓pV_M3, ↓pV_M4, ↓pV_M5, ↓pV_M6, ↓pV_M13, ↓pV_M22, ↓pV_M23, ↓pV_M24, ↓pV_M25, ↓pV_M27, ↓pV_M28, ↓pV_M29, ↓pV_M30, ↓pV_M31, ↓pV_M32, ↓pV_M33, ↓pV_M34, ↓pV_M35, ↓pV_M40, ↓pV_M41, ↓pV_M42, ↓pV_M43, ↓gR_M0, ↓gR_M7, ↓gR_M8, ↓gR_M9, ↓gR_M10, ↓gR_M11, ↓gR_M12, ↓gR_M14, ↓gR_M15, ↓gR_M16, ↓gR_M17, ↓gR_M18, ↓gR_M19, ↓gR_M20, ↓gR_M21, ↓gR_M36, ↓gR_M37, ↓gR_M38, ↓gR_M39, ↓rd_M1, ↓rd_M2, ↓rd_M3, ↓rd_M4, ↓rd_M5, ↓rd_M6, ↓rd_M7, ↓rd_M8, ↓rd_M9, ↓rd_M10, ↓rd_M11, ↓rd_M12, ↓rd_M13, ↓rd_M14, ↓rd_M15, ↓rd_M16, ↓rd_M17, ↓rd_M18, ↓rd_M19, ↓wr_M1, ↓wr_M2, ↓wr_M3, ↓wr_M4, ↓wr_M5, ↓wr_M6, ↓wr_M7, ↓wr_M8, ↓wr_M9, ↓wr_M10, ↓wr_M11, ↓wr_M12, ↓wr_M13, ↓wr_M14, ↓wr_M15, ↓wr_M16, ↓wr_M17, ↓wr_M18, ↓wr_M19, pL_H, pV_M1, pV_M2, pV_M3, pV_M4, pV_M5, pV_M6, pV_M13, pV_M22, pV_M23, pV_M24, pV_M25, pV_M27, pV_M28, pV_M29, pV_M30, pV_M31, pV_M32, pV_M33, pV_M34, pV_M35, pV_M40, pV_M41, pV_M42, pV_M43, rd_M1, rd_M2, rd_M3, rd_M4, rd_M5, rd_M6, rd_M7, rd_M8, rd_M9, rd_M10, rd_M11, rd_M12, rd_M13, rd_M14, rd_M15, rd_M16, rd_M17, rd_M18, rd_M19, wr_M1, wr_M2, wr_M3, wr_M4, wr_M5, wr_M6, wr_M7, wr_M8, wr_M9, wr_M10, wr_M11, wr_M12, wr_M13, wr_M14, wr_M15, wr_M16, wr_M17, wr_M18, wr_M19, J_l, J_neg, J_add, J_sub, J_mul, J_lt, J_le, J_eq, J_div2, J_rem2, J_shl1, J_orp, J_or, J_and, J_shr, J_ushr, J_max, J_min, J_abs, J_b0, ↓b0_ite, ↓b0_ite2, b0_ite, bI_r, bV_r, b01_ite, rZ_b, K_l, J_long, M_in, M_wayOf2, if_neg]
      by_cases c2 : 0 < r
      · have c3 : 0 ≤ wy (m 3) l (r - 1) := by
          have := hq (r - 1) (by omega) (by omega)
          by_cases h7 : 0 ≤ wy (m 3) l (r - 1)
          · exact h7
          · exact absurd (Or.inl (by omega)) this
        have v3 := trn_in _ _ v2 v1
        simp (disch := first | assumption | omega) only [↓isO_M, ↓gL_H, ↓pL_H, ↓gI_M1, ↓gI_M2, ↓gI_M3, ↓gI_M4, ↓gI_M5, ↓gI_M6, ↓gI_M13, ↓gI_M22, ↓gI_M23, ↓gI_M24, ↓gI_M25, ↓gI_M27, ↓gI_M28, ↓gI_M29, ↓gI_M30, ↓gI_M31, ↓gI_M32, ↓gI_M33, ↓gI_M34, ↓gI_M35, ↓gI_M40, ↓gI_M41, ↓gI_M42, ↓gI_M43, ↓pV_M1, ↓pV_M2, ↓pV_M3, ↓pV_M4, ↓pV_M5, ↓pV_M6, ↓pV_M13, ↓pV_M22, ↓pV_M23, ↓pV_M24, ↓pV_M25, ↓pV_M27, ↓pV_M28, ↓pV_M29, ↓pV_M30, ↓pV_M31, ↓pV_M32, ↓pV_M33, ↓pV_M34, ↓pV_M35, ↓pV_M40, ↓pV_M41, ↓pV_M42, ↓pV_M43, ↓gR_M0, ↓gR_M7, ↓gR_M8, ↓gR_M9, ↓gR_M10, ↓gR_M11, ↓gR_M12, ↓gR_M14, ↓gR_M15, ↓gR_M16, ↓gR_M17, ↓gR_M18, ↓gR_M19, ↓gR_M20, ↓gR_M21, ↓gR_M36, ↓gR_M37, ↓gR_M38, ↓gR_M39, ↓rd_M1, ↓rd_M2, ↓rd_M3, ↓rd_M4, ↓rd_M5, ↓rd_M6, ↓rd_M7, ↓rd_M8, ↓rd_M9, ↓rd_M10, ↓rd_M11, ↓rd_M12, ↓rd_M13, ↓rd_M14, ↓rd_M15, ↓rd_M16, ↓rd_M17, ↓rd_M18, ↓rd_M19, ↓wr_M1, ↓wr_M2, ↓wr_M3, ↓wr_M4, ↓wr_M5, ↓wr_M6, ↓wr_M7, ↓wr_M8, ↓wr_M9, ↓wr_M10, ↓wr_M11, ↓wr_M12, ↓wr_M13, ↓wr_M14, ↓wr_M15, ↓wr_M16, ↓wr_M17, ↓wr_M18, ↓wr_M19, pL_H, pV_M1, pV_M2, pV_M3, pV_M4, pV_M5, pV_M6, pV_M13, pV_M22, pV_M23, pV_M24, pV_M25, pV_M27, pV_M28, pV_M29, pV_M30, pV_M31, pV_M32, pV_M33, pV_M34, pV_M35, pV_M40, pV_M41, pV_M42, pV_M43, rd_M1, rd_M2, rd_M3, rd_M4, rd_M5, rd_M6, rd_M7, rd_M8, rd_M9, rd_M10, rd_M11, rd_M12, rd_M13, rd_M14, rd_M15, rd_M16, rd_M17, rd_M18, rd_M19, wr_M1, wr_M2, wr_M3, wr_M4, wr_M5, wr_M6, wr_M7, wr_M8, wr_M9, wr_M10, wr_M11, wr_M12, wr_M13, wr_M14, wr_M15, wr_M16, wr_M17, wr_M18, wr_M19, J_l, J_neg, J_add, J_sub, J_mul, J_lt, J_le, J_eq, J_div2, J_rem2, J_shl1, J_orp, J_or, J_and, J_shr, J_ushr, J_max, J_min, J_abs, J_b0, ↓b0_ite, ↓b0_ite2, b0_ite, bI_r, bV_r, b01_ite, rZ_b, K_l, J_long, M_in, M_turnAt, if_pos]
        split
        · rename_i c4
          rw [flt_crk ⟨r, by omega, by omega, Or.inr ⟨by omega, c4⟩⟩]
        · rename_i c4
          exact hstep (by rintro (hb | hb) <;> omega)
      · simp (disch := first | assumption | omega) only [↓isO_M, ↓gL_H, ↓pL_H, ↓gI_M1, ↓gI_M2, ↓gI_M3, ↓gI_M4, ↓gI_M5, ↓gI_M6, ↓gI_M13, ↓gI_M22, ↓gI_M23, ↓gI_M24, ↓gI_M25, ↓gI_M27, ↓gI_M28, ↓gI_M29, ↓gI_M30, ↓gI_M31, ↓gI_M32, ↓gI_M33, ↓gI_M34, ↓gI_M35, ↓gI_M40, ↓gI_M41, ↓gI_M42, ↓gI_M43, ↓pV_M1, ↓pV_M2, ↓pV_M3, ↓pV_M4, ↓pV_M5, ↓pV_M6, ↓pV_M13, ↓pV_M22, ↓pV_M23, ↓pV_M24, ↓pV_M25, ↓pV_M27, ↓pV_M28, ↓pV_M29, ↓pV_M30, ↓pV_M31, ↓pV_M32, ↓pV_M33, ↓pV_M34, ↓pV_M35, ↓pV_M40, ↓pV_M41, ↓pV_M42, ↓pV_M43, ↓gR_M0, ↓gR_M7, ↓gR_M8, ↓gR_M9, ↓gR_M10, ↓gR_M11, ↓gR_M12, ↓gR_M14, ↓gR_M15, ↓gR_M16, ↓gR_M17, ↓gR_M18, ↓gR_M19, ↓gR_M20, ↓gR_M21, ↓gR_M36, ↓gR_M37, ↓gR_M38, ↓gR_M39, ↓rd_M1, ↓rd_M2, ↓rd_M3, ↓rd_M4, ↓rd_M5, ↓rd_M6, ↓rd_M7, ↓rd_M8, ↓rd_M9, ↓rd_M10, ↓rd_M11, ↓rd_M12, ↓rd_M13, ↓rd_M14, ↓rd_M15, ↓rd_M16, ↓rd_M17, ↓rd_M18, ↓rd_M19, ↓wr_M1, ↓wr_M2, ↓wr_M3, ↓wr_M4, ↓wr_M5, ↓wr_M6, ↓wr_M7, ↓wr_M8, ↓wr_M9, ↓wr_M10, ↓wr_M11, ↓wr_M12, ↓wr_M13, ↓wr_M14, ↓wr_M15, ↓wr_M16, ↓wr_M17, ↓wr_M18, ↓wr_M19, pL_H, pV_M1, pV_M2, pV_M3, pV_M4, pV_M5, pV_M6, pV_M13, pV_M22, pV_M23, pV_M24, pV_M25, pV_M27, pV_M28, pV_M29, pV_M30, pV_M31, pV_M32, pV_M33, pV_M34, pV_M35, pV_M40, pV_M41, pV_M42, pV_M43, rd_M1, rd_M2, rd_M3, rd_M4, rd_M5, rd_M6, rd_M7, rd_M8, rd_M9, rd_M10, rd_M11, rd_M12, rd_M13, rd_M14, rd_M15, rd_M16, rd_M17, rd_M18, rd_M19, wr_M1, wr_M2, wr_M3, wr_M4, wr_M5, wr_M6, wr_M7, wr_M8, wr_M9, wr_M10, wr_M11, wr_M12, wr_M13, wr_M14, wr_M15, wr_M16, wr_M17, wr_M18, wr_M19, J_l, J_neg, J_add, J_sub, J_mul, J_lt, J_le, J_eq, J_div2, J_rem2, J_shl1, J_orp, J_or, J_and, J_shr, J_ushr, J_max, J_min, J_abs, J_b0, ↓b0_ite, ↓b0_ite2, b0_ite, bI_r, bV_r, b01_ite, rZ_b, K_l, J_long, M_in, if_neg]
        exact hstep (by rintro (hb | hb) <;> omega)
  · have hc : ¬crk (m 3) l (m 0 5) := fun ⟨q, h4, h5, h6⟩ => hq q h4 (by omega) h6
    rw [flt_ok hc]
    unfold qM_faultOf_49
    simp (disch := first | assumption | omega) only [↓isO_M, ↓gL_H, ↓pL_H, ↓gI_M1, ↓gI_M2, ↓gI_M3, ↓gI_M4, ↓gI_M5, ↓gI_M6, ↓gI_M13, ↓gI_M22, ↓gI_M23, ↓gI_M24, ↓gI_M25, ↓gI_M27, ↓gI_M28, ↓gI_M29, ↓gI_M30, ↓gI_M31, ↓gI_M32, ↓gI_M33, ↓gI_M34, ↓gI_M35, ↓gI_M40, ↓gI_M41, ↓gI_M42, ↓gI_M43, ↓pV_M1, ↓pV_M2, ↓pV_M3, ↓pV_M4, ↓pV_M5, ↓pV_M6, ↓pV_M13, ↓pV_M22, ↓pV_M23, ↓pV_M24, ↓pV_M25, ↓pV_M27, ↓pV_M28, ↓pV_M29, ↓pV_M30, ↓pV_M31, ↓pV_M32, ↓pV_M33, ↓pV_M34, ↓pV_M35, ↓pV_M40, ↓pV_M41, ↓pV_M42, ↓pV_M43, ↓gR_M0, ↓gR_M7, ↓gR_M8, ↓gR_M9, ↓gR_M10, ↓gR_M11, ↓gR_M12, ↓gR_M14, ↓gR_M15, ↓gR_M16, ↓gR_M17, ↓gR_M18, ↓gR_M19, ↓gR_M20, ↓gR_M21, ↓gR_M36, ↓gR_M37, ↓gR_M38, ↓gR_M39, ↓rd_M1, ↓rd_M2, ↓rd_M3, ↓rd_M4, ↓rd_M5, ↓rd_M6, ↓rd_M7, ↓rd_M8, ↓rd_M9, ↓rd_M10, ↓rd_M11, ↓rd_M12, ↓rd_M13, ↓rd_M14, ↓rd_M15, ↓rd_M16, ↓rd_M17, ↓rd_M18, ↓rd_M19, ↓wr_M1, ↓wr_M2, ↓wr_M3, ↓wr_M4, ↓wr_M5, ↓wr_M6, ↓wr_M7, ↓wr_M8, ↓wr_M9, ↓wr_M10, ↓wr_M11, ↓wr_M12, ↓wr_M13, ↓wr_M14, ↓wr_M15, ↓wr_M16, ↓wr_M17, ↓wr_M18, ↓wr_M19, pL_H, pV_M1, pV_M2, pV_M3, pV_M4, pV_M5, pV_M6, pV_M13, pV_M22, pV_M23, pV_M24, pV_M25, pV_M27, pV_M28, pV_M29, pV_M30, pV_M31, pV_M32, pV_M33, pV_M34, pV_M35, pV_M40, pV_M41, pV_M42, pV_M43, rd_M1, rd_M2, rd_M3, rd_M4, rd_M5, rd_M6, rd_M7, rd_M8, rd_M9, rd_M10, rd_M11, rd_M12, rd_M13, rd_M14, rd_M15, rd_M16, rd_M17, rd_M18, rd_M19, wr_M1, wr_M2, wr_M3, wr_M4, wr_M5, wr_M6, wr_M7, wr_M8, wr_M9, wr_M10, wr_M11, wr_M12, wr_M13, wr_M14, wr_M15, wr_M16, wr_M17, wr_M18, wr_M19, J_l, J_neg, J_add, J_sub, J_mul, J_lt, J_le, J_eq, J_div2, J_rem2, J_shl1, J_orp, J_or, J_and, J_shr, J_ushr, J_max, J_min, J_abs, J_b0, ↓b0_ite, ↓b0_ite2, b0_ite, bI_r, bV_r, b01_ite, rZ_b, K_l, J_long, M_in, M_lengthOf, M_oT]
    split <;> simp only [J_l, J_neg, J_add, J_sub, J_mul, J_lt, J_le, J_eq, J_div2, J_rem2, J_shl1, J_orp, J_or, J_and, J_shr, J_ushr, J_max, J_min, J_abs, J_b0, ↓b0_ite, ↓b0_ite2, b0_ite, bI_r, bV_r, b01_ite, rZ_b, K_l, J_long, M_in]
/-! the class's lines -/
/-- a line of the class's shows a line of a world -/
def LV (s : CT) (a : Nat) (W : Int → Int) (l : Int) : Prop := s a 1 = cN W l ∧ s a 2 = cT W l ∧ s a 3 = cZ W l ∧ ∀ p, 0 ≤ p → p < cN W l → s (a + 1) p = cX W l p ∧ s (a + 2) p = cY W l p
theorem way_hi {k : Int32 → XR} {i : Int} (h : GOk g z) (h0 : 0 ≤ i ∧ i < 9) : gS (hi z T g w s) 2 (fun a => rdI (hi z T g w s) a (J i) k) = k (J (wayL i.toNat)) := by
  unfold hi
  rw [way_hp h h0.1 h0.2, wayF_J (by omega)]
theorem L_signOf (hv : ok32 v) : qLn_signOf (J v) h = rI (J (sgn v)) h := qLn_signOf_hp hv
theorem L_way69 {u v : Int} (hg : GOk g z) (hu : ok32 u) (hv : ok32 v) : qLn_wayOfRun_69 (J u) (J v) (hi z T g w s) = rI (J (wayL (3 * (sgn v + 1) + sgn u + 1).toNat)) (hi z T g w s) := qLn_wayOfRun_69_hp hg hu hv
theorem L_wayOfRun (hg : GOk g z) (ha : isLn T a) (hv : LV s a W l) (hb : LB W l) (hr : 0 ≤ r ∧ r < cN W l - 1) : qLn_wayOfRun (z + a) (J r) (hi z T g w s) = rI (J (wy W l r)) (hi z T g w s) := by
  obtain ⟨v1, v2, v3, v4⟩ := hv
  have b0 := hb.1
  have b1 := hb.2.2.2 r hr.1 (by omega)
  have b2 := hb.2.2.2 (r + 1) (by omega) (by omega)
  have e1 := v4 r hr.1 (by omega)
  have e2 := v4 (r + 1) (by omega) (by omega)
  unfold qLn_wayOfRun wy wayI
  simp (disch := first | assumption | omega) only [↓isO_L, ↓gI_L0, ↓pV_L0, ↓gI_L1, ↓pV_L1, ↓gI_L2, ↓pV_L2, ↓gI_L3, ↓pV_L3, ↓gR_L4, ↓rd_L4, ↓wr_L4, ↓gR_L5, ↓rd_L5, ↓wr_L5, pV_L0, pV_L1, pV_L2, pV_L3, rd_L4, wr_L4, rd_L5, wr_L5, J_l, J_neg, J_add, J_sub, J_mul, J_lt, J_le, J_eq, J_div2, J_rem2, J_shl1, J_orp, J_or, J_and, J_shr, J_ushr, J_max, J_min, J_abs, J_b0, ↓b0_ite, ↓b0_ite2, b0_ite, bI_r, bV_r, b01_ite, rZ_b, K_l, J_long, M_in, J_abs, if_neg, if_pos, e1, e2, v1, L_way69]
  split
  · rw [if_neg (by omega)]
  · split
    · rw [if_neg (by omega)]
    · split
      · rw [if_neg (by omega)]
      · rw [if_pos (by omega)]
theorem L_stepsOfRun (ha : isLn T a) (hv : LV s a W l) (hb : LB W l) (hr : 0 ≤ r ∧ r < cN W l - 1) : qLn_stepsOfRun (z + a) (J r) (hi z T g w s) = rI (J (sp W l r)) (hi z T g w s) := by
  obtain ⟨v1, v2, v3, v4⟩ := hv
  have b0 := hb.1
  have b1 := hb.2.2.2 r hr.1 (by omega)
  have b2 := hb.2.2.2 (r + 1) (by omega) (by omega)
  have e1 := v4 r hr.1 (by omega)
  have e2 := v4 (r + 1) (by omega) (by omega)
  unfold qLn_stepsOfRun sp
  simp (disch := first | assumption | omega) only [↓isO_L, ↓gI_L0, ↓pV_L0, ↓gI_L1, ↓pV_L1, ↓gI_L2, ↓pV_L2, ↓gI_L3, ↓pV_L3, ↓gR_L4, ↓rd_L4, ↓wr_L4, ↓gR_L5, ↓rd_L5, ↓wr_L5, pV_L0, pV_L1, pV_L2, pV_L3, rd_L4, wr_L4, rd_L5, wr_L5, J_l, J_neg, J_add, J_sub, J_mul, J_lt, J_le, J_eq, J_div2, J_rem2, J_shl1, J_orp, J_or, J_and, J_shr, J_ushr, J_max, J_min, J_abs, J_b0, ↓b0_ite, ↓b0_ite2, b0_ite, bI_r, bV_r, b01_ite, rZ_b, K_l, J_long, M_in, J_abs, J_max, if_neg, if_pos, e1, e2, v1]
theorem L_steps (ha : isLn T a) (hv : LV s a W l) (hb : LB W l) : qLn_steps (z + a) (hi z T g w s) = rI (J (len W l)) (hi z T g w s) := by
  have b0 := hb.1
  have v1 := hv.1
  refine loopI (S := Int) (fun k r => qLn_steps_4 k (z + a) (J (pr W l r)) (J r) (hi z T g w s)) (fun X => X = rI (J (len W l)) (hi z T g w s)) (fun r => 0 ≤ r ∧ r ≤ cN W l - 1) (fun r => cN W l - 1 - r) (by intro r hr; omega) (fun k r hr ih => ?_) 0 (by omega) (by omega)
  show qLn_steps_4_b (qLn_steps_4 k) (z + a) (J (pr W l r)) (J r) (hi z T g w s) = _
  unfold qLn_steps_4_b
  simp (disch := first | assumption | omega) only [↓isO_L, ↓gI_L0, ↓pV_L0, ↓gI_L1, ↓pV_L1, ↓gI_L2, ↓pV_L2, ↓gI_L3, ↓pV_L3, ↓gR_L4, ↓rd_L4, ↓wr_L4, ↓gR_L5, ↓rd_L5, ↓wr_L5, pV_L0, pV_L1, pV_L2, pV_L3, rd_L4, wr_L4, rd_L5, wr_L5, J_l, J_neg, J_add, J_sub, J_mul, J_lt, J_le, J_eq, J_div2, J_rem2, J_shl1, J_orp, J_or, J_and, J_shr, J_ushr, J_max, J_min, J_abs, J_b0, ↓b0_ite, ↓b0_ite2, b0_ite, bI_r, bV_r, b01_ite, rZ_b, K_l, J_long, M_in, v1]
  split
  · simp (disch := first | assumption | omega) only [↓isO_L, ↓gI_L0, ↓pV_L0, ↓gI_L1, ↓pV_L1, ↓gI_L2, ↓pV_L2, ↓gI_L3, ↓pV_L3, ↓gR_L4, ↓rd_L4, ↓wr_L4, ↓gR_L5, ↓rd_L5, ↓wr_L5, pV_L0, pV_L1, pV_L2, pV_L3, rd_L4, wr_L4, rd_L5, wr_L5, J_l, J_neg, J_add, J_sub, J_mul, J_lt, J_le, J_eq, J_div2, J_rem2, J_shl1, J_orp, J_or, J_and, J_shr, J_ushr, J_max, J_min, J_abs, J_b0, ↓b0_ite, ↓b0_ite2, b0_ite, bI_r, bV_r, b01_ite, rZ_b, K_l, J_long, M_in, L_stepsOfRun ha hv hb, ← pr_s]
    exact ih (r + 1) (by omega) (by omega)
  · unfold len
    rw [show r = cN W l - 1 by omega]
theorem L_turnAt (hg : GOk g z) (ha : isLn T a) (hv : LV s a W l) (hb : LB W l) (hr : 1 ≤ r ∧ r < cN W l - 1) : qLn_turnAt (z + a) (J r) (hi z T g w s) = rI (J (trn (wy W l (r - 1)) (wy W l r))) (hi z T g w s) := by
  have b0 := hb.1
  have v1 := hv.1
  have b1 := wy_le (W := W) (l := l) (r := r)
  have b2 := wy_le (W := W) (l := l) (r := r - 1)
  unfold qLn_turnAt trn
  simp (disch := first | assumption | omega) only [↓isO_L, ↓gI_L0, ↓pV_L0, ↓gI_L1, ↓pV_L1, ↓gI_L2, ↓pV_L2, ↓gI_L3, ↓pV_L3, ↓gR_L4, ↓rd_L4, ↓wr_L4, ↓gR_L5, ↓rd_L5, ↓wr_L5, pV_L0, pV_L1, pV_L2, pV_L3, rd_L4, wr_L4, rd_L5, wr_L5, J_l, J_neg, J_add, J_sub, J_mul, J_lt, J_le, J_eq, J_div2, J_rem2, J_shl1, J_orp, J_or, J_and, J_shr, J_ushr, J_max, J_min, J_abs, J_b0, ↓b0_ite, ↓b0_ite2, b0_ite, bI_r, bV_r, b01_ite, rZ_b, K_l, J_long, M_in, J_abs, J_min, if_neg, if_pos, v1, L_wayOfRun hg ha hv hb]
theorem L_turn0 : qLn_turnAt (z + a) (J 0) h = rI (J 0) h := by
  unfold qLn_turnAt
  simp (disch := first | assumption | omega) only [J_l, J_neg, J_add, J_sub, J_mul, J_lt, J_le, J_eq, J_div2, J_rem2, J_shl1, J_orp, J_or, J_and, J_shr, J_ushr, J_max, J_min, J_abs, J_b0, ↓b0_ite, ↓b0_ite2, b0_ite, bI_r, bV_r, b01_ite, rZ_b, K_l, J_long, M_in, if_pos]
theorem L_isCrooked (hg : GOk g z) (ha : isLn T a) (hv : LV s a W l) (hb : LB W l) (h3 : 0 ≤ c ∧ c ≤ 100) : qLn_isCrooked (z + a) (J c) (hi z T g w s) = rI (J (b01 (crk W l c))) (hi z T g w s) := by
  have b0 := hb.1
  have v0 := hv.1
  refine loopI (S := Int) (fun k r => qLn_isCrooked_2 k (z + a) (J c) (J r) (hi z T g w s)) (fun X => X = rI (J (b01 (crk W l c))) (hi z T g w s)) (fun r => (0 ≤ r ∧ r ≤ cN W l - 1) ∧ ∀ q, 0 ≤ q → q < r → ¬bad W l c q) (fun r => cN W l - 1 - r) (by intro r hr; omega) (fun k r hr ih => ?_) 0 ⟨by omega, fun q h4 h5 => by omega⟩ (by omega)
  obtain ⟨hr, hq⟩ := hr
  have v1 := wy_le (W := W) (l := l) (r := r)
  have v2 := wy_le (W := W) (l := l) (r := r - 1)
  have v3 := trn_in _ _ v2 v1
  show qLn_isCrooked_2_b (qLn_isCrooked_2 k) (z + a) (J c) (J r) (hi z T g w s) = _
  unfold qLn_isCrooked_2_b
  simp (disch := first | assumption | omega) only [↓isO_L, ↓gI_L0, ↓pV_L0, ↓gI_L1, ↓pV_L1, ↓gI_L2, ↓pV_L2, ↓gI_L3, ↓pV_L3, ↓gR_L4, ↓rd_L4, ↓wr_L4, ↓gR_L5, ↓rd_L5, ↓wr_L5, pV_L0, pV_L1, pV_L2, pV_L3, rd_L4, wr_L4, rd_L5, wr_L5, J_l, J_neg, J_add, J_sub, J_mul, J_lt, J_le, J_eq, J_div2, J_rem2, J_shl1, J_orp, J_or, J_and, J_shr, J_ushr, J_max, J_min, J_abs, J_b0, ↓b0_ite, ↓b0_ite2, b0_ite, bI_r, bV_r, b01_ite, rZ_b, K_l, J_long, M_in, v0]
  split
  · have hstep : ¬bad W l c r → qLn_isCrooked_2 k (z + a) (J c) (J (r + 1)) (hi z T g w s) = rI (J (b01 (crk W l c))) (hi z T g w s) := fun hb => ih (r + 1) ⟨by omega, fun q h4 h5 => by
      by_cases h6 : q < r
      · exact hq q h4 h6
      · rw [show q = r by omega]; exact hb⟩ (by omega)
    simp (disch := first | assumption | omega) only [↓isO_L, ↓gI_L0, ↓pV_L0, ↓gI_L1, ↓pV_L1, ↓gI_L2, ↓pV_L2, ↓gI_L3, ↓pV_L3, ↓gR_L4, ↓rd_L4, ↓wr_L4, ↓gR_L5, ↓rd_L5, ↓wr_L5, pV_L0, pV_L1, pV_L2, pV_L3, rd_L4, wr_L4, rd_L5, wr_L5, J_l, J_neg, J_add, J_sub, J_mul, J_lt, J_le, J_eq, J_div2, J_rem2, J_shl1, J_orp, J_or, J_and, J_shr, J_ushr, J_max, J_min, J_abs, J_b0, ↓b0_ite, ↓b0_ite2, b0_ite, bI_r, bV_r, b01_ite, rZ_b, K_l, J_long, M_in, L_wayOfRun hg ha hv hb]
    by_cases c1 : wy W l r < 0
    · rw [if_pos c1, b01_pos ⟨r, by omega, by omega, Or.inl c1⟩]
    · rw [if_neg c1]
      by_cases c2 : r = 0
      · subst c2
        rw [L_turn0]
        simp (disch := first | assumption | omega) only [↓isO_L, ↓gI_L0, ↓pV_L0, ↓gI_L1, ↓pV_L1, ↓gI_L2, ↓pV_L2, ↓gI_L3, ↓pV_L3, ↓gR_L4, ↓rd_L4, ↓wr_L4, ↓gR_L5, ↓rd_L5, ↓wr_L5, pV_L0, pV_L1, pV_L2, pV_L3, rd_L4, wr_L4, rd_L5, wr_L5, J_l, J_neg, J_add, J_sub, J_mul, J_lt, J_le, J_eq, J_div2, J_rem2, J_shl1, J_orp, J_or, J_and, J_shr, J_ushr, J_max, J_min, J_abs, J_b0, ↓b0_ite, ↓b0_ite2, b0_ite, bI_r, bV_r, b01_ite, rZ_b, K_l, J_long, M_in, if_neg]
        exact hstep (by rintro (hb | hb) <;> omega)
      · simp (disch := first | assumption | omega) only [↓isO_L, ↓gI_L0, ↓pV_L0, ↓gI_L1, ↓pV_L1, ↓gI_L2, ↓pV_L2, ↓gI_L3, ↓pV_L3, ↓gR_L4, ↓rd_L4, ↓wr_L4, ↓gR_L5, ↓rd_L5, ↓wr_L5, pV_L0, pV_L1, pV_L2, pV_L3, rd_L4, wr_L4, rd_L5, wr_L5, J_l, J_neg, J_add, J_sub, J_mul, J_lt, J_le, J_eq, J_div2, J_rem2, J_shl1, J_orp, J_or, J_and, J_shr, J_ushr, J_max, J_min, J_abs, J_b0, ↓b0_ite, ↓b0_ite2, b0_ite, bI_r, bV_r, b01_ite, rZ_b, K_l, J_long, M_in, L_turnAt hg ha hv hb]
        split
        · rename_i c4
          rw [b01_pos ⟨r, by omega, by omega, Or.inr ⟨by omega, c4⟩⟩]
        · rename_i c4
          exact hstep (by rintro (hb | hb) <;> omega)
  · have hc : ¬crk W l c := fun ⟨q, h4, h5, h6⟩ => hq q h4 (by omega) h6
    rw [b01_neg hc]
theorem L_isShort (ha : isLn T a) (hv : LV s a W l) (hb : LB W l) : qLn_isShort (z + a) (hi z T g w s) = rI (J (b01 (len W l < cT W l - 1))) (hi z T g w s) := by
  have b1 := hb.2.1
  have b2 := len_bd hb
  have v2 := hv.2.1
  unfold qLn_isShort
  simp (disch := first | assumption | omega) only [↓isO_L, ↓gI_L0, ↓pV_L0, ↓gI_L1, ↓pV_L1, ↓gI_L2, ↓pV_L2, ↓gI_L3, ↓pV_L3, ↓gR_L4, ↓rd_L4, ↓wr_L4, ↓gR_L5, ↓rd_L5, ↓wr_L5, pV_L0, pV_L1, pV_L2, pV_L3, rd_L4, wr_L4, rd_L5, wr_L5, J_l, J_neg, J_add, J_sub, J_mul, J_lt, J_le, J_eq, J_div2, J_rem2, J_shl1, J_orp, J_or, J_and, J_shr, J_ushr, J_max, J_min, J_abs, J_b0, ↓b0_ite, ↓b0_ite2, b0_ite, bI_r, bV_r, b01_ite, rZ_b, K_l, J_long, M_in, L_steps ha hv hb, v2]
theorem L_refusal (hg : GOk g z) (ha : isLn T a) (hv : LV s a W l) (hb : LB W l) (h3 : 0 ≤ c ∧ c ≤ 100) : qLn_refusal (z + a) (J c) (hi z T g w s) = rI (J (flt W l c)) (hi z T g w s) := by
  unfold qLn_refusal
  simp (disch := first | assumption | omega) only [↓isO_L, ↓gI_L0, ↓pV_L0, ↓gI_L1, ↓pV_L1, ↓gI_L2, ↓pV_L2, ↓gI_L3, ↓pV_L3, ↓gR_L4, ↓rd_L4, ↓wr_L4, ↓gR_L5, ↓rd_L5, ↓wr_L5, pV_L0, pV_L1, pV_L2, pV_L3, rd_L4, wr_L4, rd_L5, wr_L5, J_l, J_neg, J_add, J_sub, J_mul, J_lt, J_le, J_eq, J_div2, J_rem2, J_shl1, J_orp, J_or, J_and, J_shr, J_ushr, J_max, J_min, J_abs, J_b0, ↓b0_ite, ↓b0_ite2, b0_ite, bI_r, bV_r, b01_ite, rZ_b, K_l, J_long, M_in, L_isCrooked hg ha hv hb]
  by_cases hc : crk W l c
  · rw [flt_crk hc, if_pos hc]
  · rw [flt_ok hc, if_neg hc]
    simp (disch := first | assumption | omega) only [↓isO_L, ↓gI_L0, ↓pV_L0, ↓gI_L1, ↓pV_L1, ↓gI_L2, ↓pV_L2, ↓gI_L3, ↓pV_L3, ↓gR_L4, ↓rd_L4, ↓wr_L4, ↓gR_L5, ↓rd_L5, ↓wr_L5, pV_L0, pV_L1, pV_L2, pV_L3, rd_L4, wr_L4, rd_L5, wr_L5, J_l, J_neg, J_add, J_sub, J_mul, J_lt, J_le, J_eq, J_div2, J_rem2, J_shl1, J_orp, J_or, J_and, J_shr, J_ushr, J_max, J_min, J_abs, J_b0, ↓b0_ite, ↓b0_ite2, b0_ite, bI_r, bV_r, b01_ite, rZ_b, K_l, J_long, M_in, L_isShort ha hv hb]
    (repeat' split) <;> first | rfl | omega
theorem L_longOf {i : Int} (ha : isLn T a) (hv : LV s a W l) (h1 : 0 ≤ i ∧ i < 20) : qLn_longOf (z + a) (J i) (hi z T g w s) = rI (J (cZ W l + i % 3)) (hi z T g w s) := by
  have v3 := hv.2.2.1
  unfold qLn_longOf
  simp (disch := first | assumption | omega) only [↓isO_L, ↓gI_L0, ↓pV_L0, ↓gI_L1, ↓pV_L1, ↓gI_L2, ↓pV_L2, ↓gI_L3, ↓pV_L3, ↓gR_L4, ↓rd_L4, ↓wr_L4, ↓gR_L5, ↓rd_L5, ↓wr_L5, pV_L0, pV_L1, pV_L2, pV_L3, rd_L4, wr_L4, rd_L5, wr_L5, J_l, J_neg, J_add, J_sub, J_mul, J_lt, J_le, J_eq, J_div2, J_rem2, J_shl1, J_orp, J_or, J_and, J_shr, J_ushr, J_max, J_min, J_abs, J_b0, ↓b0_ite, ↓b0_ite2, b0_ite, bI_r, bV_r, b01_ite, rZ_b, K_l, J_long, M_in, v3]
theorem st_mulbd {i : Int} (hb : LB W l) (h1 : 0 ≤ i ∧ i < 20) : 0 ≤ i * len W l ∧ i * len W l ≤ 20 * 351 := by
  have b2 := len_bd hb
  exact ⟨Int.mul_nonneg h1.1 b2.1, Int.mul_le_mul (by omega) b2.2 b2.1 (by omega)⟩
theorem L_stepOfStation {i : Int} (ha : isLn T a) (hv : LV s a W l) (hb : LB W l) (h1 : 0 ≤ i ∧ i < 20) : qLn_stepOfStation (z + a) (J i) (J (len W l)) (hi z T g w s) = rI (J (st W l i)) (hi z T g w s) := by
  have v2 := hv.2.1
  have b1 := hb.2.1
  have b3 := st_mulbd hb h1
  unfold qLn_stepOfStation st
  simp (disch := first | assumption | omega) only [↓isO_L, ↓gI_L0, ↓pV_L0, ↓gI_L1, ↓pV_L1, ↓gI_L2, ↓pV_L2, ↓gI_L3, ↓pV_L3, ↓gR_L4, ↓rd_L4, ↓wr_L4, ↓gR_L5, ↓rd_L5, ↓wr_L5, pV_L0, pV_L1, pV_L2, pV_L3, rd_L4, wr_L4, rd_L5, wr_L5, J_l, J_neg, J_add, J_sub, J_mul, J_lt, J_le, J_eq, J_div2, J_rem2, J_shl1, J_orp, J_or, J_and, J_shr, J_ushr, J_max, J_min, J_abs, J_b0, ↓b0_ite, ↓b0_ite2, b0_ite, bI_r, bV_r, b01_ite, rZ_b, K_l, J_long, M_in, v2, if_neg]
end FA
