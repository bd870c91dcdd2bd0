/-! where a label lies, and why it would not fit -/
section WH
variable {z y : Nat} {g : XH} {w : Int64} {s m : CT} {lo lg lb lo' lg' lb' row : Int → Int} {c p L wd hg k i f v u j : Int} {h : XH}
def fX (c p L : Int) : Int := if 5 < p then c % 40 - L / 2 else if p = 1 ∨ 3 < p then c % 40 - L else c % 40 + 1
def fY (c p : Int) : Int := if p < 2 then c / 40 else if p % 2 = 0 then c / 40 - 1 else c / 40 + 1
def fr (c p L : Int) : Int := 40 * fY c p + fX c p L
def offP (wd hg c p L : Int) : Prop := fX c p L < 0 ∨ wd < fX c p L + L ∨ fY c p < 0 ∨ hg ≤ fY c p
def onLn (lo : Int → Int) (f k : Int) : Prop := ∃ i, f ≤ i ∧ i < f + k ∧ lo i ≠ 0
def oth (lb : Int → Int) (c i : Int) : Prop := 0 ≤ lb i ∧ lb i ≠ c
def onLb (lb : Int → Int) (f k c : Int) : Prop := ∃ i, f ≤ i ∧ i < f + k ∧ oth lb c i
noncomputable def whyP (lo lg lb : Int → Int) (wd hg c p : Int) : Int := @ite Int (offP wd hg c p (lg c)) (Classical.propDecidable _) (-5) (@ite Int (onLn lo (fr c p (lg c)) (lg c)) (Classical.propDecidable _) (-6) (@ite Int (onLb lb (fr c p (lg c)) (lg c) c) (Classical.propDecidable _) (-7) 0))
theorem why_off (h : offP wd hg c p (lg c)) : whyP lo lg lb wd hg c p = -5 := if_pos h
theorem why_ln (h : ¬offP wd hg c p (lg c)) (h2 : onLn lo (fr c p (lg c)) (lg c)) : whyP lo lg lb wd hg c p = -6 := by
  unfold whyP
  rw [if_neg h, if_pos h2]
theorem why_lb (h : ¬offP wd hg c p (lg c)) (h2 : ¬onLn lo (fr c p (lg c)) (lg c)) (h3 : onLb lb (fr c p (lg c)) (lg c) c) : whyP lo lg lb wd hg c p = -7 := by
  unfold whyP
  rw [if_neg h, if_neg h2, if_pos h3]
theorem why_0 (h : ¬offP wd hg c p (lg c)) (h2 : ¬onLn lo (fr c p (lg c)) (lg c)) (h3 : ¬onLb lb (fr c p (lg c)) (lg c) c) : whyP lo lg lb wd hg c p = 0 := by
  unfold whyP
  rw [if_neg h, if_neg h2, if_neg h3]
theorem why_val : whyP lo lg lb wd hg c p = -5 ∨ whyP lo lg lb wd hg c p = -6 ∨ whyP lo lg lb wd hg c p = -7 ∨ whyP lo lg lb wd hg c p = 0 := by
  by_cases h1 : offP wd hg c p (lg c)
  · exact Or.inl (why_off h1)
  · by_cases h2 : onLn lo (fr c p (lg c)) (lg c)
    · exact Or.inr (Or.inl (why_ln h1 h2))
    · by_cases h3 : onLb lb (fr c p (lg c)) (lg c) c
      · exact Or.inr (Or.inr (Or.inl (why_lb h1 h2 h3)))
      · exact Or.inr (Or.inr (Or.inr (why_0 h1 h2 h3)))
theorem why_free (h : whyP lo lg lb wd hg c p = 0) : ¬offP wd hg c p (lg c) ∧ ¬onLn lo (fr c p (lg c)) (lg c) ∧ ¬onLb lb (fr c p (lg c)) (lg c) c := by
  by_cases h1 : offP wd hg c p (lg c)
  · rw [why_off h1] at h; omega
  · by_cases h2 : onLn lo (fr c p (lg c)) (lg c)
    · rw [why_ln h1 h2] at h; omega
    · by_cases h3 : onLb lb (fr c p (lg c)) (lg c) c
      · rw [why_lb h1 h2 h3] at h; omega
      · exact ⟨h1, h2, h3⟩
/-- the cells of a label that is not off -/
theorem fr_in (hc : 0 ≤ c ∧ c < 1600) (hw : 4 ≤ wd ∧ wd ≤ 40) (hh : 4 ≤ hg ∧ hg ≤ 40) (h : ¬offP wd hg c p L) (h1 : fr c p L ≤ i) (h2 : i < fr c p L + L) : 0 ≤ i ∧ i < 1600 := by
  unfold offP at h
  unfold fr at *
  omega
theorem why_congr (hc : 0 ≤ c ∧ c < 1600) (hw : 4 ≤ wd ∧ wd ≤ 40) (hh : 4 ≤ hg ∧ hg ≤ 40) (h1 : ∀ i, 0 ≤ i → i < 1600 → (lo i ≠ 0 ↔ lo' i ≠ 0)) (h2 : lg c = lg' c) (h3 : ∀ i, 0 ≤ i → i < 1600 → (oth lb c i ↔ oth lb' c i)) : whyP lo lg lb wd hg c p = whyP lo' lg' lb' wd hg c p := by
  by_cases ho : offP wd hg c p (lg c)
  · rw [why_off ho, why_off (by rw [← h2]; exact ho)]
  · have ho' : ¬offP wd hg c p (lg' c) := by rw [← h2]; exact ho
    have e1 : onLn lo (fr c p (lg c)) (lg c) ↔ onLn lo' (fr c p (lg' c)) (lg' c) := by
      rw [← h2]
      constructor
      · rintro ⟨i, i1, i2, i3⟩
        have := fr_in hc hw hh ho i1 i2
        exact ⟨i, i1, i2, (h1 i this.1 this.2).mp i3⟩
      · rintro ⟨i, i1, i2, i3⟩
        have := fr_in hc hw hh ho i1 i2
        exact ⟨i, i1, i2, (h1 i this.1 this.2).mpr i3⟩
    have e2 : onLb lb (fr c p (lg c)) (lg c) c ↔ onLb lb' (fr c p (lg' c)) (lg' c) c := by
      rw [← h2]
      constructor
      · rintro ⟨i, i1, i2, i3⟩
        have := fr_in hc hw hh ho i1 i2
        exact ⟨i, i1, i2, (h3 i this.1 this.2).mp i3⟩
      · rintro ⟨i, i1, i2, i3⟩
        have := fr_in hc hw hh ho i1 i2
        exact ⟨i, i1, i2, (h3 i this.1 this.2).mpr i3⟩
    by_cases hl : onLn lo (fr c p (lg c)) (lg c)
    · rw [why_ln ho hl, why_ln ho' (e1.mp hl)]
    · by_cases hb : onLb lb (fr c p (lg c)) (lg c) c
      · rw [why_lb ho hl hb, why_lb ho' (fun x => hl (e1.mpr x)) (e2.mp hb)]
      · rw [why_0 ho hl hb, why_0 ho' (fun x => hl (e1.mpr x)) (fun x => hb (e2.mpr x))]
/-! the model's -/
theorem M_columnOf (hc : 0 ≤ c ∧ c < 1600) (hp : 0 ≤ p ∧ p < 8) (hL : 0 ≤ m 14 c ∧ m 14 c ≤ 12) : qM_columnOf y (J c) (J p) (hi y TM g w m) = rI (J (fX c p (m 14 c))) (hi y TM g w m) := by
  unfold qM_columnOf fX qM_columnOf_33
  simp (disch := omega) only [↓isO_M, ↓gL_H, ↓pL_H, ↓gI_M1, ↓gI_M2, ↓gI_M3, ↓gI_M4, ↓gI_M5, ↓gI_M6, ↓gI_M13, ↓gI_M22, ↓gI_M23, ↓gI_M24, ↓gI_M25, ↓gI_M27, ↓gI_M28, ↓gI_M29, ↓gI_M30, ↓gI_M31, ↓gI_M32, ↓gI_M33, ↓gI_M34, ↓gI_M35, ↓gI_M40, ↓gI_M41, ↓gI_M42, ↓gI_M43, ↓pV_M1, ↓pV_M2, ↓pV_M3, ↓pV_M4, ↓pV_M5, ↓pV_M6, ↓pV_M13, ↓pV_M22, ↓pV_M23, ↓pV_M24, ↓pV_M25, ↓pV_M27, ↓pV_M28, ↓pV_M29, ↓pV_M30, ↓pV_M31, ↓pV_M32, ↓pV_M33, ↓pV_M34, ↓pV_M35, ↓pV_M40, ↓pV_M41, ↓pV_M42, ↓pV_M43, ↓gR_M0, ↓gR_M7, ↓gR_M8, ↓gR_M9, ↓gR_M10, ↓gR_M11, ↓gR_M12, ↓gR_M14, ↓gR_M15, ↓gR_M16, ↓gR_M17, ↓gR_M18, ↓gR_M19, ↓gR_M20, ↓gR_M21, ↓gR_M36, ↓gR_M37, ↓gR_M38, ↓gR_M39, ↓rd_M1, ↓rd_M2, ↓rd_M3, ↓rd_M4, ↓rd_M5, ↓rd_M6, ↓rd_M7, ↓rd_M8, ↓rd_M9, ↓rd_M10, ↓rd_M11, ↓rd_M12, ↓rd_M13, ↓rd_M14, ↓rd_M15, ↓rd_M16, ↓rd_M17, ↓rd_M18, ↓rd_M19, ↓wr_M1, ↓wr_M2, ↓wr_M3, ↓wr_M4, ↓wr_M5, ↓wr_M6, ↓wr_M7, ↓wr_M8, ↓wr_M9, ↓wr_M10, ↓wr_M11, ↓wr_M12, ↓wr_M13, ↓wr_M14, ↓wr_M15, ↓wr_M16, ↓wr_M17, ↓wr_M18, ↓wr_M19, pL_H, pV_M1, pV_M2, pV_M3, pV_M4, pV_M5, pV_M6, pV_M13, pV_M22, pV_M23, pV_M24, pV_M25, pV_M27, pV_M28, pV_M29, pV_M30, pV_M31, pV_M32, pV_M33, pV_M34, pV_M35, pV_M40, pV_M41, pV_M42, pV_M43, rd_M1, rd_M2, rd_M3, rd_M4, rd_M5, rd_M6, rd_M7, rd_M8, rd_M9, rd_M10, rd_M11, rd_M12, rd_M13, rd_M14, rd_M15, rd_M16, rd_M17, rd_M18, rd_M19, wr_M1, wr_M2, wr_M3, wr_M4, wr_M5, wr_M6, wr_M7, wr_M8, wr_M9, wr_M10, wr_M11, wr_M12, wr_M13, wr_M14, wr_M15, wr_M16, wr_M17, wr_M18, wr_M19, J_l, J_neg, J_add, J_sub, J_mul, J_lt, J_le, J_eq, J_div2, J_rem2, J_shl1, J_orp, J_or, J_and, J_shr, J_ushr, J_max, J_min, J_abs, J_b0, ↓b0_ite, ↓b0_ite2, b0_ite, bI_r, bV_r, b01_ite, rZ_b, K_l, J_long, M_in]
  (repeat' split) <;> first | rfl | omega
theorem M_rowOf (hc : 0 ≤ c ∧ c < 1600) (hp : 0 ≤ p ∧ p < 8) : qM_rowOf (J c) (J p) h = rI (J (fY c p)) h := by
  unfold qM_rowOf fY
  simp (disch := omega) only [J_l, J_neg, J_add, J_sub, J_mul, J_lt, J_le, J_eq, J_div2, J_rem2, J_shl1, J_orp, J_or, J_and, J_shr, J_ushr, J_max, J_min, J_abs, J_b0, ↓b0_ite, ↓b0_ite2, b0_ite, bI_r, bV_r, b01_ite, rZ_b, K_l, J_long, M_in]
  (repeat' split) <;> first | rfl | omega
theorem fX_bd (hc : 0 ≤ c ∧ c < 1600) (hL : 0 ≤ L ∧ L ≤ 12) : -12 ≤ fX c p L ∧ fX c p L ≤ 40 := by
  unfold fX
  (repeat' split) <;> omega
theorem fY_bd (hc : 0 ≤ c ∧ c < 1600) : -1 ≤ fY c p ∧ fY c p ≤ 40 := by
  unfold fY
  (repeat' split) <;> omega
theorem M_isOff (hc : 0 ≤ c ∧ c < 1600) (hp : 0 ≤ p ∧ p < 8) (hL : 0 ≤ m 14 c ∧ m 14 c ≤ 12) (hw : 4 ≤ m 0 3 ∧ m 0 3 ≤ 40) (hh : 4 ≤ m 0 4 ∧ m 0 4 ≤ 40) : qM_isOff y (J c) (J p) (hi y TM g w m) = rI (J (b01 (offP (m 0 3) (m 0 4) c p (m 14 c)))) (hi y TM g w m) := by
  have d1 := fX_bd (p := p) hc hL
  have d2 := fY_bd (p := p) hc
  unfold qM_isOff offP
  simp (disch := omega) only [↓isO_M, ↓gL_H, ↓pL_H, ↓gI_M1, ↓gI_M2, ↓gI_M3, ↓gI_M4, ↓gI_M5, ↓gI_M6, ↓gI_M13, ↓gI_M22, ↓gI_M23, ↓gI_M24, ↓gI_M25, ↓gI_M27, ↓gI_M28, ↓gI_M29, ↓gI_M30, ↓gI_M31, ↓gI_M32, ↓gI_M33, ↓gI_M34, ↓gI_M35, ↓gI_M40, ↓gI_M41, ↓gI_M42, ↓gI_M43, ↓pV_M1, ↓pV_M2, ↓pV_M3, ↓pV_M4, ↓pV_M5, ↓pV_M6, ↓pV_M13, ↓pV_M22, ↓pV_M23, ↓pV_M24, ↓pV_M25, ↓pV_M27, ↓pV_M28, ↓pV_M29, ↓pV_M30, ↓pV_M31, ↓pV_M32, ↓pV_M33, ↓pV_M34, ↓pV_M35, ↓pV_M40, ↓pV_M41, ↓pV_M42, ↓pV_M43, ↓gR_M0, ↓gR_M7, ↓gR_M8, ↓gR_M9, ↓gR_M10, ↓gR_M11, ↓gR_M12, ↓gR_M14, ↓gR_M15, ↓gR_M16, ↓gR_M17, ↓gR_M18, ↓gR_M19, ↓gR_M20, ↓gR_M21, ↓gR_M36, ↓gR_M37, ↓gR_M38, ↓gR_M39, ↓rd_M1, ↓rd_M2, ↓rd_M3, ↓rd_M4, ↓rd_M5, ↓rd_M6, ↓rd_M7, ↓rd_M8, ↓rd_M9, ↓rd_M10, ↓rd_M11, ↓rd_M12, ↓rd_M13, ↓rd_M14, ↓rd_M15, ↓rd_M16, ↓rd_M17, ↓rd_M18, ↓rd_M19, ↓wr_M1, ↓wr_M2, ↓wr_M3, ↓wr_M4, ↓wr_M5, ↓wr_M6, ↓wr_M7, ↓wr_M8, ↓wr_M9, ↓wr_M10, ↓wr_M11, ↓wr_M12, ↓wr_M13, ↓wr_M14, ↓wr_M15, ↓wr_M16, ↓wr_M17, ↓wr_M18, ↓wr_M19, pL_H, pV_M1, pV_M2, pV_M3, pV_M4, pV_M5, pV_M6, pV_M13, pV_M22, pV_M23, pV_M24, pV_M25, pV_M27, pV_M28, pV_M29, pV_M30, pV_M31, pV_M32, pV_M33, pV_M34, pV_M35, pV_M40, pV_M41, pV_M42, pV_M43, rd_M1, rd_M2, rd_M3, rd_M4, rd_M5, rd_M6, rd_M7, rd_M8, rd_M9, rd_M10, rd_M11, rd_M12, rd_M13, rd_M14, rd_M15, rd_M16, rd_M17, rd_M18, rd_M19, wr_M1, wr_M2, wr_M3, wr_M4, wr_M5, wr_M6, wr_M7, wr_M8, wr_M9, wr_M10, wr_M11, wr_M12, wr_M13, wr_M14, wr_M15, wr_M16, wr_M17, wr_M18, wr_M19, J_l, J_neg, J_add, J_sub, J_mul, J_lt, J_le, J_eq, J_div2, J_rem2, J_shl1, J_orp, J_or, J_and, J_shr, J_ushr, J_max, J_min, J_abs, J_b0, ↓b0_ite, ↓b0_ite2, b0_ite, bI_r, bV_r, b01_ite, rZ_b, K_l, J_long, M_in, M_columnOf, M_rowOf]
  (repeat' split) <;> first | (rw [b01_pos (by omega)]) | (rw [b01_neg (by omega)]) | exact congrArg (fun v => rI (J v) _) (b01_congr (by omega)) | rfl
theorem M_isOnLine (hc : 0 ≤ c ∧ c < 1600) (hp : 0 ≤ p ∧ p < 8) (hL : 0 ≤ m 14 c ∧ m 14 c ≤ 12) (hw : 4 ≤ m 0 3 ∧ m 0 3 ≤ 40) (hh : 4 ≤ m 0 4 ∧ m 0 4 ≤ 40) (ho : ¬offP (m 0 3) (m 0 4) c p (m 14 c)) (hlo : ∀ i, 0 ≤ i → i < 1600 → 0 ≤ m 10 i ∧ m 10 i ≤ 255) : qM_isOnLine y (J c) (J p) (hi y TM g w m) = rI (J (b01 (onLn (m 10) (fr c p (m 14 c)) (m 14 c)))) (hi y TM g w m) := by
  unfold qM_isOnLine
  simp (disch := omega) only [↓isO_M, ↓gL_H, ↓pL_H, ↓gI_M1, ↓gI_M2, ↓gI_M3, ↓gI_M4, ↓gI_M5, ↓gI_M6, ↓gI_M13, ↓gI_M22, ↓gI_M23, ↓gI_M24, ↓gI_M25, ↓gI_M27, ↓gI_M28, ↓gI_M29, ↓gI_M30, ↓gI_M31, ↓gI_M32, ↓gI_M33, ↓gI_M34, ↓gI_M35, ↓gI_M40, ↓gI_M41, ↓gI_M42, ↓gI_M43, ↓pV_M1, ↓pV_M2, ↓pV_M3, ↓pV_M4, ↓pV_M5, ↓pV_M6, ↓pV_M13, ↓pV_M22, ↓pV_M23, ↓pV_M24, ↓pV_M25, ↓pV_M27, ↓pV_M28, ↓pV_M29, ↓pV_M30, ↓pV_M31, ↓pV_M32, ↓pV_M33, ↓pV_M34, ↓pV_M35, ↓pV_M40, ↓pV_M41, ↓pV_M42, ↓pV_M43, ↓gR_M0, ↓gR_M7, ↓gR_M8, ↓gR_M9, ↓gR_M10, ↓gR_M11, ↓gR_M12, ↓gR_M14, ↓gR_M15, ↓gR_M16, ↓gR_M17, ↓gR_M18, ↓gR_M19, ↓gR_M20, ↓gR_M21, ↓gR_M36, ↓gR_M37, ↓gR_M38, ↓gR_M39, ↓rd_M1, ↓rd_M2, ↓rd_M3, ↓rd_M4, ↓rd_M5, ↓rd_M6, ↓rd_M7, ↓rd_M8, ↓rd_M9, ↓rd_M10, ↓rd_M11, ↓rd_M12, ↓rd_M13, ↓rd_M14, ↓rd_M15, ↓rd_M16, ↓rd_M17, ↓rd_M18, ↓rd_M19, ↓wr_M1, ↓wr_M2, ↓wr_M3, ↓wr_M4, ↓wr_M5, ↓wr_M6, ↓wr_M7, ↓wr_M8, ↓wr_M9, ↓wr_M10, ↓wr_M11, ↓wr_M12, ↓wr_M13, ↓wr_M14, ↓wr_M15, ↓wr_M16, ↓wr_M17, ↓wr_M18, ↓wr_M19, pL_H, pV_M1, pV_M2, pV_M3, pV_M4, pV_M5, pV_M6, pV_M13, pV_M22, pV_M23, pV_M24, pV_M25, pV_M27, pV_M28, pV_M29, pV_M30, pV_M31, pV_M32, pV_M33, pV_M34, pV_M35, pV_M40, pV_M41, pV_M42, pV_M43, rd_M1, rd_M2, rd_M3, rd_M4, rd_M5, rd_M6, rd_M7, rd_M8, rd_M9, rd_M10, rd_M11, rd_M12, rd_M13, rd_M14, rd_M15, rd_M16, rd_M17, rd_M18, rd_M19, wr_M1, wr_M2, wr_M3, wr_M4, wr_M5, wr_M6, wr_M7, wr_M8, wr_M9, wr_M10, wr_M11, wr_M12, wr_M13, wr_M14, wr_M15, wr_M16, wr_M17, wr_M18, wr_M19, J_l, J_neg, J_add, J_sub, J_mul, J_lt, J_le, J_eq, J_div2, J_rem2, J_shl1, J_orp, J_or, J_and, J_shr, J_ushr, J_max, J_min, J_abs, J_b0, ↓b0_ite, ↓b0_ite2, b0_ite, bI_r, bV_r, b01_ite, rZ_b, K_l, J_long, M_in, M_columnOf, M_rowOf, M_cell]
  have e0 : J 0 = J (b01 (onLn (m 10) (fr c p (m 14 c)) 0)) := by rw [b01_neg (fun ⟨i, i1, i2, _⟩ => by omega)]
  rw [show 40 * fY c p + fX c p (m 14 c) = fr c p (m 14 c) from rfl]
  have key : qM_isOnLine_21 LF y (J c) (J (fr c p (m 14 c))) (J (b01 (onLn (m 10) (fr c p (m 14 c)) 0))) (J 0) (hi y TM g w m) = rI (J (b01 (onLn (m 10) (fr c p (m 14 c)) (m 14 c)))) (hi y TM g w m) := by
    refine loopI (S := Int) (fun n k => qM_isOnLine_21 n y (J c) (J (fr c p (m 14 c))) (J (b01 (onLn (m 10) (fr c p (m 14 c)) k))) (J k) (hi y TM g w m)) (fun X => X = rI (J (b01 (onLn (m 10) (fr c p (m 14 c)) (m 14 c)))) (hi y TM g w m)) (fun k => 0 ≤ k ∧ k ≤ m 14 c) (fun k => m 14 c - k) (by intro r hr; omega) (fun n k hk ih => ?_) 0 (by omega) (by omega)
    show qM_isOnLine_21_b (qM_isOnLine_21 n) y (J c) (J (fr c p (m 14 c))) (J (b01 (onLn (m 10) (fr c p (m 14 c)) k))) (J k) (hi y TM g w m) = _
    unfold qM_isOnLine_21_b
    by_cases hc2 : k < m 14 c
    · have hi2 := fr_in (i := fr c p (m 14 c) + k) hc hw hh ho (by omega) (by omega)
      have hv := hlo _ hi2.1 hi2.2
      have hnext := ih (k + 1) (by omega) (by omega)
      change qM_isOnLine_21 n y (J c) (J (fr c p (m 14 c))) (J (b01 (onLn (m 10) (fr c p (m 14 c)) (k + 1)))) (J (k + 1)) (hi y TM g w m) = _ at hnext
      simp (disch := omega) only [↓isO_M, ↓gL_H, ↓pL_H, ↓gI_M1, ↓gI_M2, ↓gI_M3, ↓gI_M4, ↓gI_M5, ↓gI_M6, ↓gI_M13, ↓gI_M22, ↓gI_M23, ↓gI_M24, ↓gI_M25, ↓gI_M27, ↓gI_M28, ↓gI_M29, ↓gI_M30, ↓gI_M31, ↓gI_M32, ↓gI_M33, ↓gI_M34, ↓gI_M35, ↓gI_M40, ↓gI_M41, ↓gI_M42, ↓gI_M43, ↓pV_M1, ↓pV_M2, ↓pV_M3, ↓pV_M4, ↓pV_M5, ↓pV_M6, ↓pV_M13, ↓pV_M22, ↓pV_M23, ↓pV_M24, ↓pV_M25, ↓pV_M27, ↓pV_M28, ↓pV_M29, ↓pV_M30, ↓pV_M31, ↓pV_M32, ↓pV_M33, ↓pV_M34, ↓pV_M35, ↓pV_M40, ↓pV_M41, ↓pV_M42, ↓pV_M43, ↓gR_M0, ↓gR_M7, ↓gR_M8, ↓gR_M9, ↓gR_M10, ↓gR_M11, ↓gR_M12, ↓gR_M14, ↓gR_M15, ↓gR_M16, ↓gR_M17, ↓gR_M18, ↓gR_M19, ↓gR_M20, ↓gR_M21, ↓gR_M36, ↓gR_M37, ↓gR_M38, ↓gR_M39, ↓rd_M1, ↓rd_M2, ↓rd_M3, ↓rd_M4, ↓rd_M5, ↓rd_M6, ↓rd_M7, ↓rd_M8, ↓rd_M9, ↓rd_M10, ↓rd_M11, ↓rd_M12, ↓rd_M13, ↓rd_M14, ↓rd_M15, ↓rd_M16, ↓rd_M17, ↓rd_M18, ↓rd_M19, ↓wr_M1, ↓wr_M2, ↓wr_M3, ↓wr_M4, ↓wr_M5, ↓wr_M6, ↓wr_M7, ↓wr_M8, ↓wr_M9, ↓wr_M10, ↓wr_M11, ↓wr_M12, ↓wr_M13, ↓wr_M14, ↓wr_M15, ↓wr_M16, ↓wr_M17, ↓wr_M18, ↓wr_M19, pL_H, pV_M1, pV_M2, pV_M3, pV_M4, pV_M5, pV_M6, pV_M13, pV_M22, pV_M23, pV_M24, pV_M25, pV_M27, pV_M28, pV_M29, pV_M30, pV_M31, pV_M32, pV_M33, pV_M34, pV_M35, pV_M40, pV_M41, pV_M42, pV_M43, rd_M1, rd_M2, rd_M3, rd_M4, rd_M5, rd_M6, rd_M7, rd_M8, rd_M9, rd_M10, rd_M11, rd_M12, rd_M13, rd_M14, rd_M15, rd_M16, rd_M17, rd_M18, rd_M19, wr_M1, wr_M2, wr_M3, wr_M4, wr_M5, wr_M6, wr_M7, wr_M8, wr_M9, wr_M10, wr_M11, wr_M12, wr_M13, wr_M14, wr_M15, wr_M16, wr_M17, wr_M18, wr_M19, J_l, J_neg, J_add, J_sub, J_mul, J_lt, J_le, J_eq, J_div2, J_rem2, J_shl1, J_orp, J_or, J_and, J_shr, J_ushr, J_max, J_min, J_abs, J_b0, ↓b0_ite, ↓b0_ite2, b0_ite, bI_r, bV_r, b01_ite, rZ_b, K_l, J_long, M_in, if_pos]
      unfold qM_isOnLine_49
      simp (disch := omega) only [J_l, J_neg, J_add, J_sub, J_mul, J_lt, J_le, J_eq, J_div2, J_rem2, J_shl1, J_orp, J_or, J_and, J_shr, J_ushr, J_max, J_min, J_abs, J_b0, ↓b0_ite, ↓b0_ite2, b0_ite, bI_r, bV_r, b01_ite, rZ_b, K_l, J_long, M_in]
      by_cases h1 : onLn (m 10) (fr c p (m 14 c)) k
      · have h2 : onLn (m 10) (fr c p (m 14 c)) (k + 1) := by
          obtain ⟨i, i1, i2, i3⟩ := h1
          exact ⟨i, i1, by omega, i3⟩
        rw [b01_pos h2] at hnext
        rw [if_pos h1]
        exact hnext
      · rw [if_neg h1]
        by_cases h3 : m 10 (fr c p (m 14 c) + k) = 0
        · have h2 : ¬onLn (m 10) (fr c p (m 14 c)) (k + 1) := by
            rintro ⟨i, i1, i2, i3⟩
            by_cases h4 : i < fr c p (m 14 c) + k
            · exact h1 ⟨i, i1, h4, i3⟩
            · rw [show i = fr c p (m 14 c) + k by omega] at i3; exact i3 h3
          rw [b01_neg h2] at hnext
          rw [if_pos h3]
          exact hnext
        · have h2 : onLn (m 10) (fr c p (m 14 c)) (k + 1) := ⟨_, by omega, by omega, h3⟩
          rw [b01_pos h2] at hnext
          rw [if_neg h3]
          exact hnext
    · have e : k = m 14 c := by omega
      subst e
      simp (disch := omega) only [↓isO_M, ↓gL_H, ↓pL_H, ↓gI_M1, ↓gI_M2, ↓gI_M3, ↓gI_M4, ↓gI_M5, ↓gI_M6, ↓gI_M13, ↓gI_M22, ↓gI_M23, ↓gI_M24, ↓gI_M25, ↓gI_M27, ↓gI_M28, ↓gI_M29, ↓gI_M30, ↓gI_M31, ↓gI_M32, ↓gI_M33, ↓gI_M34, ↓gI_M35, ↓gI_M40, ↓gI_M41, ↓gI_M42, ↓gI_M43, ↓pV_M1, ↓pV_M2, ↓pV_M3, ↓pV_M4, ↓pV_M5, ↓pV_M6, ↓pV_M13, ↓pV_M22, ↓pV_M23, ↓pV_M24, ↓pV_M25, ↓pV_M27, ↓pV_M28, ↓pV_M29, ↓pV_M30, ↓pV_M31, ↓pV_M32, ↓pV_M33, ↓pV_M34, ↓pV_M35, ↓pV_M40, ↓pV_M41, ↓pV_M42, ↓pV_M43, ↓gR_M0, ↓gR_M7, ↓gR_M8, ↓gR_M9, ↓gR_M10, ↓gR_M11, ↓gR_M12, ↓gR_M14, ↓gR_M15, ↓gR_M16, ↓gR_M17, ↓gR_M18, ↓gR_M19, ↓gR_M20, ↓gR_M21, ↓gR_M36, ↓gR_M37, ↓gR_M38, ↓gR_M39, ↓rd_M1, ↓rd_M2, ↓rd_M3, ↓rd_M4, ↓rd_M5, ↓rd_M6, ↓rd_M7, ↓rd_M8, ↓rd_M9, ↓rd_M10, ↓rd_M11, ↓rd_M12, ↓rd_M13, ↓rd_M14, ↓rd_M15, ↓rd_M16, ↓rd_M17, ↓rd_M18, ↓rd_M19, ↓wr_M1, ↓wr_M2, ↓wr_M3, ↓wr_M4, ↓wr_M5, ↓wr_M6, ↓wr_M7, ↓wr_M8, ↓wr_M9, ↓wr_M10, ↓wr_M11, ↓wr_M12, ↓wr_M13, ↓wr_M14, ↓wr_M15, ↓wr_M16, ↓wr_M17, ↓wr_M18, ↓wr_M19, pL_H, pV_M1, pV_M2, pV_M3, pV_M4, pV_M5, pV_M6, pV_M13, pV_M22, pV_M23, pV_M24, pV_M25, pV_M27, pV_M28, pV_M29, pV_M30, pV_M31, pV_M32, pV_M33, pV_M34, pV_M35, pV_M40, pV_M41, pV_M42, pV_M43, rd_M1, rd_M2, rd_M3, rd_M4, rd_M5, rd_M6, rd_M7, rd_M8, rd_M9, rd_M10, rd_M11, rd_M12, rd_M13, rd_M14, rd_M15, rd_M16, rd_M17, rd_M18, rd_M19, wr_M1, wr_M2, wr_M3, wr_M4, wr_M5, wr_M6, wr_M7, wr_M8, wr_M9, wr_M10, wr_M11, wr_M12, wr_M13, wr_M14, wr_M15, wr_M16, wr_M17, wr_M18, wr_M19, J_l, J_neg, J_add, J_sub, J_mul, J_lt, J_le, J_eq, J_div2, J_rem2, J_shl1, J_orp, J_or, J_and, J_shr, J_ushr, J_max, J_min, J_abs, J_b0, ↓b0_ite, ↓b0_ite2, b0_ite, bI_r, bV_r, b01_ite, rZ_b, K_l, J_long, M_in, if_neg]
  rw [← key, ← e0]
/-- the model's note of another label -/
def o22 (m : CT) (v : Int) : CT := rs m 0 (ru (m 0) 22 v)
theorem o22_o22 : o22 (o22 m v) u = o22 m u := by
  unfold o22
  rw [rs_same, rs_rs]
  congr 1
  funext j
  unfold ru
  split <;> rfl
theorem o22_self : o22 m (m 0 22) = m := by
  unfold o22
  have : ru (m 0) 22 (m 0 22) = m 0 := by
    funext j
    unfold ru
    split
    · rename_i e; rw [e]
    · rfl
  rw [this, rs_self]
theorem o22_ne {o : Nat} (h : o ≠ 0) : o22 m v o = m o := rs_ne h
theorem o22_0 (h : j ≠ 22) : o22 m v 0 j = m 0 j := by
  unfold o22
  rw [rs_same, ru_ne h]
/-- what the model counts of other labels -/
def othR (lb : Int → Int) (c f k n o : Int) : Prop := (n = 0 ∧ o = -2 ∧ ∀ i, f ≤ i → i < f + k → ¬oth lb c i) ∨ (n = 1 ∧ 0 ≤ o ∧ o < 1600 ∧ o ≠ c ∧ (∃ i, f ≤ i ∧ i < f + k ∧ lb i = o) ∧ ∀ i, f ≤ i → i < f + k → oth lb c i → lb i = o) ∨ (2 ≤ n ∧ n ≤ k ∧ 0 ≤ o ∧ o < 1600 ∧ ∃ i j, (f ≤ i ∧ i < f + k) ∧ (f ≤ j ∧ j < f + k) ∧ oth lb c i ∧ oth lb c j ∧ lb i ≠ lb j)
theorem M_others (hc : 0 ≤ c ∧ c < 1600) (hp : 0 ≤ p ∧ p < 8) (hL : 0 ≤ m 14 c ∧ m 14 c ≤ 12) (hw : 4 ≤ m 0 3 ∧ m 0 3 ≤ 40) (hh : 4 ≤ m 0 4 ∧ m 0 4 ≤ 40) (ho : ¬offP (m 0 3) (m 0 4) c p (m 14 c)) (hlb : ∀ i, 0 ≤ i → i < 1600 → -2 ≤ m 15 i ∧ m 15 i < 1600) : ∃ n o, qM_others y (J c) (J p) (hi y TM g w m) = rI (J n) (hi y TM g w (o22 m o)) ∧ othR (m 15) c (fr c p (m 14 c)) (m 14 c) n o := by
  unfold qM_others
  simp (disch := omega) only [↓isO_M, ↓gL_H, ↓pL_H, ↓gI_M1, ↓gI_M2, ↓gI_M3, ↓gI_M4, ↓gI_M5, ↓gI_M6, ↓gI_M13, ↓gI_M22, ↓gI_M23, ↓gI_M24, ↓gI_M25, ↓gI_M27, ↓gI_M28, ↓gI_M29, ↓gI_M30, ↓gI_M31, ↓gI_M32, ↓gI_M33, ↓gI_M34, ↓gI_M35, ↓gI_M40, ↓gI_M41, ↓gI_M42, ↓gI_M43, ↓pV_M1, ↓pV_M2, ↓pV_M3, ↓pV_M4, ↓pV_M5, ↓pV_M6, ↓pV_M13, ↓pV_M22, ↓pV_M23, ↓pV_M24, ↓pV_M25, ↓pV_M27, ↓pV_M28, ↓pV_M29, ↓pV_M30, ↓pV_M31, ↓pV_M32, ↓pV_M33, ↓pV_M34, ↓pV_M35, ↓pV_M40, ↓pV_M41, ↓pV_M42, ↓pV_M43, ↓gR_M0, ↓gR_M7, ↓gR_M8, ↓gR_M9, ↓gR_M10, ↓gR_M11, ↓gR_M12, ↓gR_M14, ↓gR_M15, ↓gR_M16, ↓gR_M17, ↓gR_M18, ↓gR_M19, ↓gR_M20, ↓gR_M21, ↓gR_M36, ↓gR_M37, ↓gR_M38, ↓gR_M39, ↓rd_M1, ↓rd_M2, ↓rd_M3, ↓rd_M4, ↓rd_M5, ↓rd_M6, ↓rd_M7, ↓rd_M8, ↓rd_M9, ↓rd_M10, ↓rd_M11, ↓rd_M12, ↓rd_M13, ↓rd_M14, ↓rd_M15, ↓rd_M16, ↓rd_M17, ↓rd_M18, ↓rd_M19, ↓wr_M1, ↓wr_M2, ↓wr_M3, ↓wr_M4, ↓wr_M5, ↓wr_M6, ↓wr_M7, ↓wr_M8, ↓wr_M9, ↓wr_M10, ↓wr_M11, ↓wr_M12, ↓wr_M13, ↓wr_M14, ↓wr_M15, ↓wr_M16, ↓wr_M17, ↓wr_M18, ↓wr_M19, pL_H, pV_M1, pV_M2, pV_M3, pV_M4, pV_M5, pV_M6, pV_M13, pV_M22, pV_M23, pV_M24, pV_M25, pV_M27, pV_M28, pV_M29, pV_M30, pV_M31, pV_M32, pV_M33, pV_M34, pV_M35, pV_M40, pV_M41, pV_M42, pV_M43, rd_M1, rd_M2, rd_M3, rd_M4, rd_M5, rd_M6, rd_M7, rd_M8, rd_M9, rd_M10, rd_M11, rd_M12, rd_M13, rd_M14, rd_M15, rd_M16, rd_M17, rd_M18, rd_M19, wr_M1, wr_M2, wr_M3, wr_M4, wr_M5, wr_M6, wr_M7, wr_M8, wr_M9, wr_M10, wr_M11, wr_M12, wr_M13, wr_M14, wr_M15, wr_M16, wr_M17, wr_M18, wr_M19, J_l, J_neg, J_add, J_sub, J_mul, J_lt, J_le, J_eq, J_div2, J_rem2, J_shl1, J_orp, J_or, J_and, J_shr, J_ushr, J_max, J_min, J_abs, J_b0, ↓b0_ite, ↓b0_ite2, b0_ite, bI_r, bV_r, b01_ite, rZ_b, K_l, J_long, M_in, M_columnOf, M_rowOf, M_cell]
  rw [show 40 * fY c p + fX c p (m 14 c) = fr c p (m 14 c) from rfl]
  refine loopI (S := Int × Int × Int) (fun N q => qM_others_27 N y (J c) (J (fr c p (m 14 c))) (J q.2.1) (J q.1) (hi y TM g w (o22 m q.2.2))) (fun X => ∃ n o, X = rI (J n) (hi y TM g w (o22 m o)) ∧ othR (m 15) c (fr c p (m 14 c)) (m 14 c) n o) (fun q => (0 ≤ q.1 ∧ q.1 ≤ m 14 c) ∧ othR (m 15) c (fr c p (m 14 c)) q.1 q.2.1 q.2.2) (fun q => m 14 c - q.1) (by intro r hr; omega) (fun N q hq ih => ?_) (0, 0, -2) ⟨⟨by show (0 : Int) ≤ 0; omega, by show 0 ≤ m 14 c; omega⟩, Or.inl ⟨rfl, rfl, fun i i1 i2 => by omega⟩⟩ (by show m 14 c - 0 < 20000; omega)
  obtain ⟨k, n, o⟩ := q
  obtain ⟨⟨hk, hk2⟩, hR⟩ := hq
  change 0 ≤ k at hk
  change k ≤ m 14 c at hk2
  change othR (m 15) c (fr c p (m 14 c)) k n o at hR
  show ∃ n' o', qM_others_27_b (qM_others_27 N) y (J c) (J (fr c p (m 14 c))) (J n) (J k) (hi y TM g w (o22 m o)) = _ ∧ _
  have e14 : o22 m o 14 = m 14 := o22_ne (by decide)
  have e15 : o22 m o 15 = m 15 := o22_ne (by decide)
  have e22 : o22 m o 0 22 = o := by unfold o22; rw [rs_same, ru_same]
  have ho2 : -2 ≤ o ∧ o < 1600 := by
    rcases hR with ⟨_, x, _⟩ | ⟨_, x, x2, _⟩ | ⟨_, _, x, x2, _⟩ <;> omega
  have hup : ∀ v, rs (o22 m o) 0 (ru (o22 m o 0) 22 v) = o22 m v := fun v => o22_o22
  unfold qM_others_27_b
  by_cases hc2 : k < m 14 c
  · have hi2 := fr_in (i := fr c p (m 14 c) + k) hc hw hh ho (by omega) (by omega)
    have hv := hlb _ hi2.1 hi2.2
    generalize fr c p (m 14 c) = f at *
    have hsame : (¬oth (m 15) c (f + k) ∨ m 15 (f + k) = o) → othR (m 15) c f (k + 1) n o := by
      intro hx
      rcases hR with ⟨x1, x2, x3⟩ | ⟨x1, x2, x3, x4, ⟨i, i1, i2, i3⟩, x6⟩ | ⟨x1, x2, x3, x4, i, j, x5, x6, x7⟩
      · refine Or.inl ⟨x1, x2, fun i i1 i2 hi3 => ?_⟩
        by_cases h4 : i < f + k
        · exact x3 i i1 h4 hi3
        · rw [show i = f + k by omega] at hi3
          rcases hx with hx | hx
          · exact hx hi3
          · unfold oth at hi3; omega
      · refine Or.inr (Or.inl ⟨x1, x2, x3, x4, ⟨i, i1, by omega, i3⟩, fun j j1 j2 j3 => ?_⟩)
        by_cases h4 : j < f + k
        · exact x6 j j1 h4 j3
        · rw [show j = f + k by omega] at j3 ⊢
          rcases hx with hx | hx
          · exact absurd j3 hx
          · exact hx
      · exact Or.inr (Or.inr ⟨x1, by omega, x3, x4, i, j, by omega, by omega, x7⟩)
    have hold : othR (m 15) c f (k + 1) n o → ∃ n' o', qM_others_27 N y (J c) (J f) (J n) (J (k + 1)) (hi y TM g w (o22 m o)) = rI (J n') (hi y TM g w (o22 m o')) ∧ othR (m 15) c f (m 14 c) n' o' := fun hx => ih (k + 1, n, o) ⟨⟨by show 0 ≤ k + 1; omega, by show k + 1 ≤ m 14 c; omega⟩, hx⟩ (by show m 14 c - (k + 1) < m 14 c - k; omega)
    simp (disch := omega) only [↓isO_M, ↓gL_H, ↓pL_H, ↓gI_M1, ↓gI_M2, ↓gI_M3, ↓gI_M4, ↓gI_M5, ↓gI_M6, ↓gI_M13, ↓gI_M22, ↓gI_M23, ↓gI_M24, ↓gI_M25, ↓gI_M27, ↓gI_M28, ↓gI_M29, ↓gI_M30, ↓gI_M31, ↓gI_M32, ↓gI_M33, ↓gI_M34, ↓gI_M35, ↓gI_M40, ↓gI_M41, ↓gI_M42, ↓gI_M43, ↓pV_M1, ↓pV_M2, ↓pV_M3, ↓pV_M4, ↓pV_M5, ↓pV_M6, ↓pV_M13, ↓pV_M22, ↓pV_M23, ↓pV_M24, ↓pV_M25, ↓pV_M27, ↓pV_M28, ↓pV_M29, ↓pV_M30, ↓pV_M31, ↓pV_M32, ↓pV_M33, ↓pV_M34, ↓pV_M35, ↓pV_M40, ↓pV_M41, ↓pV_M42, ↓pV_M43, ↓gR_M0, ↓gR_M7, ↓gR_M8, ↓gR_M9, ↓gR_M10, ↓gR_M11, ↓gR_M12, ↓gR_M14, ↓gR_M15, ↓gR_M16, ↓gR_M17, ↓gR_M18, ↓gR_M19, ↓gR_M20, ↓gR_M21, ↓gR_M36, ↓gR_M37, ↓gR_M38, ↓gR_M39, ↓rd_M1, ↓rd_M2, ↓rd_M3, ↓rd_M4, ↓rd_M5, ↓rd_M6, ↓rd_M7, ↓rd_M8, ↓rd_M9, ↓rd_M10, ↓rd_M11, ↓rd_M12, ↓rd_M13, ↓rd_M14, ↓rd_M15, ↓rd_M16, ↓rd_M17, ↓rd_M18, ↓rd_M19, ↓wr_M1, ↓wr_M2, ↓wr_M3, ↓wr_M4, ↓wr_M5, ↓wr_M6, ↓wr_M7, ↓wr_M8, ↓wr_M9, ↓wr_M10, ↓wr_M11, ↓wr_M12, ↓wr_M13, ↓wr_M14, ↓wr_M15, ↓wr_M16, ↓wr_M17, ↓wr_M18, ↓wr_M19, pL_H, pV_M1, pV_M2, pV_M3, pV_M4, pV_M5, pV_M6, pV_M13, pV_M22, pV_M23, pV_M24, pV_M25, pV_M27, pV_M28, pV_M29, pV_M30, pV_M31, pV_M32, pV_M33, pV_M34, pV_M35, pV_M40, pV_M41, pV_M42, pV_M43, rd_M1, rd_M2, rd_M3, rd_M4, rd_M5, rd_M6, rd_M7, rd_M8, rd_M9, rd_M10, rd_M11, rd_M12, rd_M13, rd_M14, rd_M15, rd_M16, rd_M17, rd_M18, rd_M19, wr_M1, wr_M2, wr_M3, wr_M4, wr_M5, wr_M6, wr_M7, wr_M8, wr_M9, wr_M10, wr_M11, wr_M12, wr_M13, wr_M14, wr_M15, wr_M16, wr_M17, wr_M18, wr_M19, J_l, J_neg, J_add, J_sub, J_mul, J_lt, J_le, J_eq, J_div2, J_rem2, J_shl1, J_orp, J_or, J_and, J_shr, J_ushr, J_max, J_min, J_abs, J_b0, ↓b0_ite, ↓b0_ite2, b0_ite, bI_r, bV_r, b01_ite, rZ_b, K_l, J_long, M_in, e14, e15, e22, if_pos, hup]
    by_cases c1 : m 15 (f + k) < 0
    · rw [if_pos c1]
      exact hold (hsame (Or.inl fun hx => by unfold oth at hx; omega))
    · rw [if_neg c1]
      by_cases c3 : m 15 (f + k) = c
      · rw [if_pos c3]
        exact hold (hsame (Or.inl fun hx => hx.2 c3))
      · rw [if_neg c3]
        by_cases c4 : m 15 (f + k) = o
        · rw [if_pos c4]
          exact hold (hsame (Or.inr c4))
        · rw [if_neg c4]
          refine ih (k + 1, n + 1, m 15 (f + k)) ⟨⟨by show 0 ≤ k + 1; omega, by show k + 1 ≤ m 14 c; omega⟩, ?_⟩ (by show m 14 c - (k + 1) < m 14 c - k; omega)
          show othR (m 15) c f (k + 1) (n + 1) (m 15 (f + k))
          rcases hR with ⟨x1, x2, x3⟩ | ⟨x1, x2, x3, x4, ⟨i, i1, i2, i3⟩, x6⟩ | ⟨x1, x2, x3, x4, i, j, x5, x6, x7⟩
          · refine Or.inr (Or.inl ⟨by omega, by omega, by omega, c3, ⟨f + k, by omega, by omega, rfl⟩, fun j j1 j2 j3 => ?_⟩)
            by_cases h4 : j < f + k
            · exact absurd j3 (x3 j j1 h4)
            · rw [show j = f + k by omega]
          · exact Or.inr (Or.inr ⟨by omega, by omega, by omega, by omega, i, f + k, ⟨i1, by omega⟩, ⟨by omega, by omega⟩, ⟨by omega, by omega⟩, ⟨by omega, c3⟩, by omega⟩)
          · exact Or.inr (Or.inr ⟨by omega, by omega, by omega, by omega, i, j, by omega, by omega, x7⟩)
  · have e : k = m 14 c := by omega
    subst e
    simp (disch := omega) only [↓isO_M, ↓gL_H, ↓pL_H, ↓gI_M1, ↓gI_M2, ↓gI_M3, ↓gI_M4, ↓gI_M5, ↓gI_M6, ↓gI_M13, ↓gI_M22, ↓gI_M23, ↓gI_M24, ↓gI_M25, ↓gI_M27, ↓gI_M28, ↓gI_M29, ↓gI_M30, ↓gI_M31, ↓gI_M32, ↓gI_M33, ↓gI_M34, ↓gI_M35, ↓gI_M40, ↓gI_M41, ↓gI_M42, ↓gI_M43, ↓pV_M1, ↓pV_M2, ↓pV_M3, ↓pV_M4, ↓pV_M5, ↓pV_M6, ↓pV_M13, ↓pV_M22, ↓pV_M23, ↓pV_M24, ↓pV_M25, ↓pV_M27, ↓pV_M28, ↓pV_M29, ↓pV_M30, ↓pV_M31, ↓pV_M32, ↓pV_M33, ↓pV_M34, ↓pV_M35, ↓pV_M40, ↓pV_M41, ↓pV_M42, ↓pV_M43, ↓gR_M0, ↓gR_M7, ↓gR_M8, ↓gR_M9, ↓gR_M10, ↓gR_M11, ↓gR_M12, ↓gR_M14, ↓gR_M15, ↓gR_M16, ↓gR_M17, ↓gR_M18, ↓gR_M19, ↓gR_M20, ↓gR_M21, ↓gR_M36, ↓gR_M37, ↓gR_M38, ↓gR_M39, ↓rd_M1, ↓rd_M2, ↓rd_M3, ↓rd_M4, ↓rd_M5, ↓rd_M6, ↓rd_M7, ↓rd_M8, ↓rd_M9, ↓rd_M10, ↓rd_M11, ↓rd_M12, ↓rd_M13, ↓rd_M14, ↓rd_M15, ↓rd_M16, ↓rd_M17, ↓rd_M18, ↓rd_M19, ↓wr_M1, ↓wr_M2, ↓wr_M3, ↓wr_M4, ↓wr_M5, ↓wr_M6, ↓wr_M7, ↓wr_M8, ↓wr_M9, ↓wr_M10, ↓wr_M11, ↓wr_M12, ↓wr_M13, ↓wr_M14, ↓wr_M15, ↓wr_M16, ↓wr_M17, ↓wr_M18, ↓wr_M19, pL_H, pV_M1, pV_M2, pV_M3, pV_M4, pV_M5, pV_M6, pV_M13, pV_M22, pV_M23, pV_M24, pV_M25, pV_M27, pV_M28, pV_M29, pV_M30, pV_M31, pV_M32, pV_M33, pV_M34, pV_M35, pV_M40, pV_M41, pV_M42, pV_M43, rd_M1, rd_M2, rd_M3, rd_M4, rd_M5, rd_M6, rd_M7, rd_M8, rd_M9, rd_M10, rd_M11, rd_M12, rd_M13, rd_M14, rd_M15, rd_M16, rd_M17, rd_M18, rd_M19, wr_M1, wr_M2, wr_M3, wr_M4, wr_M5, wr_M6, wr_M7, wr_M8, wr_M9, wr_M10, wr_M11, wr_M12, wr_M13, wr_M14, wr_M15, wr_M16, wr_M17, wr_M18, wr_M19, J_l, J_neg, J_add, J_sub, J_mul, J_lt, J_le, J_eq, J_div2, J_rem2, J_shl1, J_orp, J_or, J_and, J_shr, J_ushr, J_max, J_min, J_abs, J_b0, ↓b0_ite, ↓b0_ite2, b0_ite, bI_r, bV_r, b01_ite, rZ_b, K_l, J_long, M_in, e14, if_neg]
    exact ⟨n, o, rfl, hR⟩
theorem othR_pos {n o : Int} (h : othR lb c f k n o) : (0 < n ↔ onLb lb f k c) ∧ 0 ≤ n ∧ n ≤ max 1 k := by
  rcases h with ⟨x1, x2, x3⟩ | ⟨x1, x2, x3, x4, ⟨i, i1, i2, i3⟩, x6⟩ | ⟨x1, x2, x3, x4, i, j, x5, x6, x7⟩
  · exact ⟨⟨fun h => by omega, fun ⟨i, i1, i2, i3⟩ => absurd i3 (x3 i i1 i2)⟩, by omega, by omega⟩
  · exact ⟨⟨fun _ => ⟨i, i1, i2, by unfold oth; omega⟩, fun _ => by omega⟩, by omega, by omega⟩
  · exact ⟨⟨fun _ => ⟨i, x5.1, x5.2, x7.1⟩, fun _ => by omega⟩, by omega, by omega⟩
/-- what the model must have laid for asking why -/
def WhI (m : CT) : Prop := (4 ≤ m 0 3 ∧ m 0 3 ≤ 40) ∧ (4 ≤ m 0 4 ∧ m 0 4 ≤ 40) ∧ (∀ i, 0 ≤ i → i < 1600 → (0 ≤ m 10 i ∧ m 10 i ≤ 255) ∧ (0 ≤ m 14 i ∧ m 14 i ≤ 12) ∧ -2 ≤ m 15 i ∧ m 15 i < 1600)
noncomputable def whyM (m : CT) (c p : Int) : Int := whyP (m 10) (m 14) (m 15) (m 0 3) (m 0 4) c p
theorem M_whyNot (hc : 0 ≤ c ∧ c < 1600) (hp : 0 ≤ p ∧ p < 8) (hI : WhI m) : ∃ v, qM_whyNot y (J c) (J p) (hi y TM g w m) = rI (J (whyM m c p)) (hi y TM g w (o22 m v)) := by
  obtain ⟨hw, hh, hx⟩ := hI
  have hL := (hx c hc.1 hc.2).2.1
  unfold qM_whyNot whyM
  simp (disch := first | assumption | omega) only [↓isO_M, ↓gL_H, ↓pL_H, ↓gI_M1, ↓gI_M2, ↓gI_M3, ↓gI_M4, ↓gI_M5, ↓gI_M6, ↓gI_M13, ↓gI_M22, ↓gI_M23, ↓gI_M24, ↓gI_M25, ↓gI_M27, ↓gI_M28, ↓gI_M29, ↓gI_M30, ↓gI_M31, ↓gI_M32, ↓gI_M33, ↓gI_M34, ↓gI_M35, ↓gI_M40, ↓gI_M41, ↓gI_M42, ↓gI_M43, ↓pV_M1, ↓pV_M2, ↓pV_M3, ↓pV_M4, ↓pV_M5, ↓pV_M6, ↓pV_M13, ↓pV_M22, ↓pV_M23, ↓pV_M24, ↓pV_M25, ↓pV_M27, ↓pV_M28, ↓pV_M29, ↓pV_M30, ↓pV_M31, ↓pV_M32, ↓pV_M33, ↓pV_M34, ↓pV_M35, ↓pV_M40, ↓pV_M41, ↓pV_M42, ↓pV_M43, ↓gR_M0, ↓gR_M7, ↓gR_M8, ↓gR_M9, ↓gR_M10, ↓gR_M11, ↓gR_M12, ↓gR_M14, ↓gR_M15, ↓gR_M16, ↓gR_M17, ↓gR_M18, ↓gR_M19, ↓gR_M20, ↓gR_M21, ↓gR_M36, ↓gR_M37, ↓gR_M38, ↓gR_M39, ↓rd_M1, ↓rd_M2, ↓rd_M3, ↓rd_M4, ↓rd_M5, ↓rd_M6, ↓rd_M7, ↓rd_M8, ↓rd_M9, ↓rd_M10, ↓rd_M11, ↓rd_M12, ↓rd_M13, ↓rd_M14, ↓rd_M15, ↓rd_M16, ↓rd_M17, ↓rd_M18, ↓rd_M19, ↓wr_M1, ↓wr_M2, ↓wr_M3, ↓wr_M4, ↓wr_M5, ↓wr_M6, ↓wr_M7, ↓wr_M8, ↓wr_M9, ↓wr_M10, ↓wr_M11, ↓wr_M12, ↓wr_M13, ↓wr_M14, ↓wr_M15, ↓wr_M16, ↓wr_M17, ↓wr_M18, ↓wr_M19, pL_H, pV_M1, pV_M2, pV_M3, pV_M4, pV_M5, pV_M6, pV_M13, pV_M22, pV_M23, pV_M24, pV_M25, pV_M27, pV_M28, pV_M29, pV_M30, pV_M31, pV_M32, pV_M33, pV_M34, pV_M35, pV_M40, pV_M41, pV_M42, pV_M43, rd_M1, rd_M2, rd_M3, rd_M4, rd_M5, rd_M6, rd_M7, rd_M8, rd_M9, rd_M10, rd_M11, rd_M12, rd_M13, rd_M14, rd_M15, rd_M16, rd_M17, rd_M18, rd_M19, wr_M1, wr_M2, wr_M3, wr_M4, wr_M5, wr_M6, wr_M7, wr_M8, wr_M9, wr_M10, wr_M11, wr_M12, wr_M13, wr_M14, wr_M15, wr_M16, wr_M17, wr_M18, wr_M19, J_l, J_neg, J_add, J_sub, J_mul, J_lt, J_le, J_eq, J_div2, J_rem2, J_shl1, J_orp, J_or, J_and, J_shr, J_ushr, J_max, J_min, J_abs, J_b0, ↓b0_ite, ↓b0_ite2, b0_ite, bI_r, bV_r, b01_ite, rZ_b, K_l, J_long, M_in, M_isOff]
  by_cases ho : offP (m 0 3) (m 0 4) c p (m 14 c)
  · refine ⟨m 0 22, ?_⟩
    rw [if_pos ho, why_off ho, o22_self]
  · rw [if_neg ho]
    have x1 := M_isOnLine (y := y) (g := g) (w := w) hc hp hL hw hh ho (fun i i1 i2 => (hx i i1 i2).1)
    simp (disch := first | assumption | omega) only [↓isO_M, ↓gL_H, ↓pL_H, ↓gI_M1, ↓gI_M2, ↓gI_M3, ↓gI_M4, ↓gI_M5, ↓gI_M6, ↓gI_M13, ↓gI_M22, ↓gI_M23, ↓gI_M24, ↓gI_M25, ↓gI_M27, ↓gI_M28, ↓gI_M29, ↓gI_M30, ↓gI_M31, ↓gI_M32, ↓gI_M33, ↓gI_M34, ↓gI_M35, ↓gI_M40, ↓gI_M41, ↓gI_M42, ↓gI_M43, ↓pV_M1, ↓pV_M2, ↓pV_M3, ↓pV_M4, ↓pV_M5, ↓pV_M6, ↓pV_M13, ↓pV_M22, ↓pV_M23, ↓pV_M24, ↓pV_M25, ↓pV_M27, ↓pV_M28, ↓pV_M29, ↓pV_M30, ↓pV_M31, ↓pV_M32, ↓pV_M33, ↓pV_M34, ↓pV_M35, ↓pV_M40, ↓pV_M41, ↓pV_M42, ↓pV_M43, ↓gR_M0, ↓gR_M7, ↓gR_M8, ↓gR_M9, ↓gR_M10, ↓gR_M11, ↓gR_M12, ↓gR_M14, ↓gR_M15, ↓gR_M16, ↓gR_M17, ↓gR_M18, ↓gR_M19, ↓gR_M20, ↓gR_M21, ↓gR_M36, ↓gR_M37, ↓gR_M38, ↓gR_M39, ↓rd_M1, ↓rd_M2, ↓rd_M3, ↓rd_M4, ↓rd_M5, ↓rd_M6, ↓rd_M7, ↓rd_M8, ↓rd_M9, ↓rd_M10, ↓rd_M11, ↓rd_M12, ↓rd_M13, ↓rd_M14, ↓rd_M15, ↓rd_M16, ↓rd_M17, ↓rd_M18, ↓rd_M19, ↓wr_M1, ↓wr_M2, ↓wr_M3, ↓wr_M4, ↓wr_M5, ↓wr_M6, ↓wr_M7, ↓wr_M8, ↓wr_M9, ↓wr_M10, ↓wr_M11, ↓wr_M12, ↓wr_M13, ↓wr_M14, ↓wr_M15, ↓wr_M16, ↓wr_M17, ↓wr_M18, ↓wr_M19, pL_H, pV_M1, pV_M2, pV_M3, pV_M4, pV_M5, pV_M6, pV_M13, pV_M22, pV_M23, pV_M24, pV_M25, pV_M27, pV_M28, pV_M29, pV_M30, pV_M31, pV_M32, pV_M33, pV_M34, pV_M35, pV_M40, pV_M41, pV_M42, pV_M43, rd_M1, rd_M2, rd_M3, rd_M4, rd_M5, rd_M6, rd_M7, rd_M8, rd_M9, rd_M10, rd_M11, rd_M12, rd_M13, rd_M14, rd_M15, rd_M16, rd_M17, rd_M18, rd_M19, wr_M1, wr_M2, wr_M3, wr_M4, wr_M5, wr_M6, wr_M7, wr_M8, wr_M9, wr_M10, wr_M11, wr_M12, wr_M13, wr_M14, wr_M15, wr_M16, wr_M17, wr_M18, wr_M19, J_l, J_neg, J_add, J_sub, J_mul, J_lt, J_le, J_eq, J_div2, J_rem2, J_shl1, J_orp, J_or, J_and, J_shr, J_ushr, J_max, J_min, J_abs, J_b0, ↓b0_ite, ↓b0_ite2, b0_ite, bI_r, bV_r, b01_ite, rZ_b, K_l, J_long, M_in, x1]
    by_cases hl : onLn (m 10) (fr c p (m 14 c)) (m 14 c)
    · refine ⟨m 0 22, ?_⟩
      rw [if_pos hl, why_ln ho hl, o22_self]
    · rw [if_neg hl]
      obtain ⟨n, o, x2, x3⟩ := M_others (y := y) (g := g) (w := w) hc hp hL hw hh ho (fun i i1 i2 => (hx i i1 i2).2.2)
      have x4 := othR_pos x3
      refine ⟨o, ?_⟩
      simp (disch := first | assumption | omega) only [↓isO_M, ↓gL_H, ↓pL_H, ↓gI_M1, ↓gI_M2, ↓gI_M3, ↓gI_M4, ↓gI_M5, ↓gI_M6, ↓gI_M13, ↓gI_M22, ↓gI_M23, ↓gI_M24, ↓gI_M25, ↓gI_M27, ↓gI_M28, ↓gI_M29, ↓gI_M30, ↓gI_M31, ↓gI_M32, ↓gI_M33, ↓gI_M34, ↓gI_M35, ↓gI_M40, ↓gI_M41, ↓gI_M42, ↓gI_M43, ↓pV_M1, ↓pV_M2, ↓pV_M3, ↓pV_M4, ↓pV_M5, ↓pV_M6, ↓pV_M13, ↓pV_M22, ↓pV_M23, ↓pV_M24, ↓pV_M25, ↓pV_M27, ↓pV_M28, ↓pV_M29, ↓pV_M30, ↓pV_M31, ↓pV_M32, ↓pV_M33, ↓pV_M34, ↓pV_M35, ↓pV_M40, ↓pV_M41, ↓pV_M42, ↓pV_M43, ↓gR_M0, ↓gR_M7, ↓gR_M8, ↓gR_M9, ↓gR_M10, ↓gR_M11, ↓gR_M12, ↓gR_M14, ↓gR_M15, ↓gR_M16, ↓gR_M17, ↓gR_M18, ↓gR_M19, ↓gR_M20, ↓gR_M21, ↓gR_M36, ↓gR_M37, ↓gR_M38, ↓gR_M39, ↓rd_M1, ↓rd_M2, ↓rd_M3, ↓rd_M4, ↓rd_M5, ↓rd_M6, ↓rd_M7, ↓rd_M8, ↓rd_M9, ↓rd_M10, ↓rd_M11, ↓rd_M12, ↓rd_M13, ↓rd_M14, ↓rd_M15, ↓rd_M16, ↓rd_M17, ↓rd_M18, ↓rd_M19, ↓wr_M1, ↓wr_M2, ↓wr_M3, ↓wr_M4, ↓wr_M5, ↓wr_M6, ↓wr_M7, ↓wr_M8, ↓wr_M9, ↓wr_M10, ↓wr_M11, ↓wr_M12, ↓wr_M13, ↓wr_M14, ↓wr_M15, ↓wr_M16, ↓wr_M17, ↓wr_M18, ↓wr_M19, pL_H, pV_M1, pV_M2, pV_M3, pV_M4, pV_M5, pV_M6, pV_M13, pV_M22, pV_M23, pV_M24, pV_M25, pV_M27, pV_M28, pV_M29, pV_M30, pV_M31, pV_M32, pV_M33, pV_M34, pV_M35, pV_M40, pV_M41, pV_M42, pV_M43, rd_M1, rd_M2, rd_M3, rd_M4, rd_M5, rd_M6, rd_M7, rd_M8, rd_M9, rd_M10, rd_M11, rd_M12, rd_M13, rd_M14, rd_M15, rd_M16, rd_M17, rd_M18, rd_M19, wr_M1, wr_M2, wr_M3, wr_M4, wr_M5, wr_M6, wr_M7, wr_M8, wr_M9, wr_M10, wr_M11, wr_M12, wr_M13, wr_M14, wr_M15, wr_M16, wr_M17, wr_M18, wr_M19, J_l, J_neg, J_add, J_sub, J_mul, J_lt, J_le, J_eq, J_div2, J_rem2, J_shl1, J_orp, J_or, J_and, J_shr, J_ushr, J_max, J_min, J_abs, J_b0, ↓b0_ite, ↓b0_ite2, b0_ite, bI_r, bV_r, b01_ite, rZ_b, K_l, J_long, M_in, x2]
      by_cases hb : onLb (m 15) (fr c p (m 14 c)) (m 14 c) c
      · rw [if_pos (x4.1.mpr hb), why_lb ho hl hb]
      · rw [if_neg (fun e => hb (x4.1.mp e)), why_0 ho hl hb]
/-- the first position that is free -/
def ffN (f : Int → Int) : Nat → Int
  | 0 => -2
  | n + 1 => if f (7 - (n : Int)) = 0 then 7 - (n : Int) else ffN f n
def ff (f : Int → Int) : Int := ffN f 8
theorem ffN_s {f : Int → Int} (h : 0 ≤ p ∧ p < 8) : ffN f (8 - p).toNat = if f p = 0 then p else ffN f (8 - (p + 1)).toNat := by
  rw [show (8 - p).toNat = (8 - (p + 1)).toNat + 1 by omega]
  show (if f (7 - ((8 - (p + 1)).toNat : Int)) = 0 then 7 - ((8 - (p + 1)).toNat : Int) else ffN f (8 - (p + 1)).toNat) = _
  rw [show 7 - ((8 - (p + 1)).toNat : Int) = p by omega]
theorem ff_sp {f : Int → Int} : (∃ p, 0 ≤ p ∧ p < 8 ∧ ff f = p ∧ f p = 0 ∧ ∀ q, 0 ≤ q → q < p → f q ≠ 0) ∨ (ff f = -2 ∧ ∀ q, 0 ≤ q → q < 8 → f q ≠ 0) := by
  have key := int_ind_le (P := fun n => (ff f = ffN f (8 - n).toNat ∧ ∀ q, 0 ≤ q → q < n → f q ≠ 0) ∨ (∃ p, 0 ≤ p ∧ p < 8 ∧ ff f = p ∧ f p = 0 ∧ ∀ q, 0 ≤ q → q < p → f q ≠ 0)) (N := 8) (Or.inl ⟨rfl, fun q q1 q2 => by omega⟩) (fun n h1 h2 ih => by
    rcases ih with ⟨x1, x2⟩ | x
    · rw [ffN_s ⟨h1, h2⟩] at x1
      by_cases h3 : f n = 0
      · rw [if_pos h3] at x1
        exact Or.inr ⟨n, h1, h2, x1, h3, x2⟩
      · rw [if_neg h3] at x1
        refine Or.inl ⟨x1, fun q q1 q2 => ?_⟩
        by_cases h4 : q < n
        · exact x2 q q1 h4
        · rw [show q = n by omega]; exact h3
    · exact Or.inr x) 8 (by omega) (by omega)
  rcases key with ⟨x1, x2⟩ | x
  · exact Or.inr ⟨x1, x2⟩
  · exact Or.inl x
theorem ff_bd {f : Int → Int} : -2 ≤ ff f ∧ ff f < 8 := by
  rcases ff_sp (f := f) with ⟨p, h1, h2, h3, _⟩ | ⟨h1, _⟩ <;> omega
theorem ff_congr {f f' : Int → Int} (h : ∀ p, 0 ≤ p → p < 8 → f p = f' p) : ff f = ff f' := by
  have key := int_ind_le (P := fun n => ffN f n.toNat = ffN f' n.toNat) (N := 8) rfl (fun n h1 h2 ih => by
    have e1 := ffN_s (f := f) (p := 7 - n) (by omega)
    have e2 := ffN_s (f := f') (p := 7 - n) (by omega)
    rw [show 8 - (7 - n) = n + 1 by omega, show 8 - (7 - n + 1) = n by omega] at e1 e2
    rw [e1, e2, ih, h _ (by omega) (by omega)]) 8 (by omega) (by omega)
  exact key
theorem WhI_o22 (h : WhI m) : WhI (o22 m v) := by
  unfold WhI at *
  rw [o22_0 (by decide), o22_0 (by decide), o22_ne (by decide), o22_ne (by decide), o22_ne (by decide)]
  exact h
theorem whyM_o22 : whyM (o22 m v) c p = whyM m c p := by
  unfold whyM
  rw [o22_0 (by decide), o22_0 (by decide), o22_ne (by decide), o22_ne (by decide), o22_ne (by decide)]
theorem M_firstFree (hc : 0 ≤ c ∧ c < 1600) (hI : WhI m) : ∃ v, qM_firstFree y (J c) (hi y TM g w m) = rI (J (ff (whyM m c))) (hi y TM g w (o22 m v)) := by
  have key := loopI (S := Int × Int) (fun N q => qM_firstFree_2 N y (J c) (J q.1) (hi y TM g w (o22 m q.2))) (fun X => ∃ v, X = rI (J (ff (whyM m c))) (hi y TM g w (o22 m v))) (fun q => (0 ≤ q.1 ∧ q.1 ≤ 8) ∧ ffN (whyM m c) (8 - q.1).toNat = ff (whyM m c)) (fun q => 8 - q.1) (by intro r hr; omega) (fun N q hq ih => by
    obtain ⟨p, v⟩ := q
    obtain ⟨⟨hp, hp2⟩, hR⟩ := hq
    change 0 ≤ p at hp
    change p ≤ 8 at hp2
    change ffN (whyM m c) (8 - p).toNat = ff (whyM m c) at hR
    show ∃ v', qM_firstFree_2_b (qM_firstFree_2 N) y (J c) (J p) (hi y TM g w (o22 m v)) = _
    unfold qM_firstFree_2_b
    by_cases h8 : p < 8
    · obtain ⟨v', x1⟩ := M_whyNot (y := y) (g := g) (w := w) (p := p) hc ⟨hp, h8⟩ (WhI_o22 (v := v) hI)
      rw [whyM_o22, o22_o22] at x1
      have xv := why_val (lo := m 10) (lg := m 14) (lb := m 15) (wd := m 0 3) (hg := m 0 4) (c := c) (p := p)
      change whyM m c p = -5 ∨ whyM m c p = -6 ∨ whyM m c p = -7 ∨ whyM m c p = 0 at xv
      rw [ffN_s ⟨hp, h8⟩] at hR
      simp (disch := omega) only [↓isO_M, ↓gL_H, ↓pL_H, ↓gI_M1, ↓gI_M2, ↓gI_M3, ↓gI_M4, ↓gI_M5, ↓gI_M6, ↓gI_M13, ↓gI_M22, ↓gI_M23, ↓gI_M24, ↓gI_M25, ↓gI_M27, ↓gI_M28, ↓gI_M29, ↓gI_M30, ↓gI_M31, ↓gI_M32, ↓gI_M33, ↓gI_M34, ↓gI_M35, ↓gI_M40, ↓gI_M41, ↓gI_M42, ↓gI_M43, ↓pV_M1, ↓pV_M2, ↓pV_M3, ↓pV_M4, ↓pV_M5, ↓pV_M6, ↓pV_M13, ↓pV_M22, ↓pV_M23, ↓pV_M24, ↓pV_M25, ↓pV_M27, ↓pV_M28, ↓pV_M29, ↓pV_M30, ↓pV_M31, ↓pV_M32, ↓pV_M33, ↓pV_M34, ↓pV_M35, ↓pV_M40, ↓pV_M41, ↓pV_M42, ↓pV_M43, ↓gR_M0, ↓gR_M7, ↓gR_M8, ↓gR_M9, ↓gR_M10, ↓gR_M11, ↓gR_M12, ↓gR_M14, ↓gR_M15, ↓gR_M16, ↓gR_M17, ↓gR_M18, ↓gR_M19, ↓gR_M20, ↓gR_M21, ↓gR_M36, ↓gR_M37, ↓gR_M38, ↓gR_M39, ↓rd_M1, ↓rd_M2, ↓rd_M3, ↓rd_M4, ↓rd_M5, ↓rd_M6, ↓rd_M7, ↓rd_M8, ↓rd_M9, ↓rd_M10, ↓rd_M11, ↓rd_M12, ↓rd_M13, ↓rd_M14, ↓rd_M15, ↓rd_M16, ↓rd_M17, ↓rd_M18, ↓rd_M19, ↓wr_M1, ↓wr_M2, ↓wr_M3, ↓wr_M4, ↓wr_M5, ↓wr_M6, ↓wr_M7, ↓wr_M8, ↓wr_M9, ↓wr_M10, ↓wr_M11, ↓wr_M12, ↓wr_M13, ↓wr_M14, ↓wr_M15, ↓wr_M16, ↓wr_M17, ↓wr_M18, ↓wr_M19, pL_H, pV_M1, pV_M2, pV_M3, pV_M4, pV_M5, pV_M6, pV_M13, pV_M22, pV_M23, pV_M24, pV_M25, pV_M27, pV_M28, pV_M29, pV_M30, pV_M31, pV_M32, pV_M33, pV_M34, pV_M35, pV_M40, pV_M41, pV_M42, pV_M43, rd_M1, rd_M2, rd_M3, rd_M4, rd_M5, rd_M6, rd_M7, rd_M8, rd_M9, rd_M10, rd_M11, rd_M12, rd_M13, rd_M14, rd_M15, rd_M16, rd_M17, rd_M18, rd_M19, wr_M1, wr_M2, wr_M3, wr_M4, wr_M5, wr_M6, wr_M7, wr_M8, wr_M9, wr_M10, wr_M11, wr_M12, wr_M13, wr_M14, wr_M15, wr_M16, wr_M17, wr_M18, wr_M19, J_l, J_neg, J_add, J_sub, J_mul, J_lt, J_le, J_eq, J_div2, J_rem2, J_shl1, J_orp, J_or, J_and, J_shr, J_ushr, J_max, J_min, J_abs, J_b0, ↓b0_ite, ↓b0_ite2, b0_ite, bI_r, bV_r, b01_ite, rZ_b, K_l, J_long, M_in, if_pos, x1]
      by_cases h0 : whyM m c p = 0
      · rw [if_pos h0] at hR
        rw [if_pos h0, ← hR]
        exact ⟨v', rfl⟩
      · rw [if_neg h0] at hR
        rw [if_neg h0]
        exact ih (p + 1, v') ⟨⟨by show 0 ≤ p + 1; omega, by show p + 1 ≤ 8; omega⟩, hR⟩ (by show 8 - (p + 1) < 8 - p; omega)
    · rw [show p = 8 by omega] at hR ⊢
      simp (disch := omega) only [J_l, J_neg, J_add, J_sub, J_mul, J_lt, J_le, J_eq, J_div2, J_rem2, J_shl1, J_orp, J_or, J_and, J_shr, J_ushr, J_max, J_min, J_abs, J_b0, ↓b0_ite, ↓b0_ite2, b0_ite, bI_r, bV_r, b01_ite, rZ_b, K_l, J_long, M_in, if_neg]
      rw [← hR]
      exact ⟨v, rfl⟩) (0, m 0 22) ⟨⟨by show (0 : Int) ≤ 0; omega, by show (0 : Int) ≤ 8; omega⟩, rfl⟩ (by show (8 : Int) - 0 < 20000; omega)
  simp only [o22_self] at key
  exact key
/-- cells of a row are painted -/
def pnt (row : Int → Int) (f k v : Int) : Int → Int := fun i => if f ≤ i ∧ i < f + k then v else row i
theorem pnt_0 : pnt row f 0 v = row := funext fun i => if_neg (by omega)
theorem pnt_s (hk : 0 ≤ k) : ru (pnt row f k v) (f + k) v = pnt row f (k + 1) v := funext fun i => by
  unfold ru pnt
  by_cases h1 : i = f + k
  · rw [if_pos h1, if_pos (by omega)]
  · rw [if_neg h1]
    by_cases h2 : f ≤ i ∧ i < f + k
    · rw [if_pos h2, if_pos (by omega)]
    · rw [if_neg h2, if_neg (by omega)]
theorem M_laysLabel (hc : 0 ≤ c ∧ c < 1600) (hp : 0 ≤ p ∧ p < 8) (hL : 0 ≤ m 14 c ∧ m 14 c ≤ 12) (hw : 4 ≤ wd ∧ wd ≤ 40) (hh : 4 ≤ hg ∧ hg ≤ 40) (ho : ¬offP wd hg c p (m 14 c)) : qM_laysLabel y (J c) (J p) (J v) (hi y TM g w m) = rV (hi y TM g w (rs m 15 (pnt (m 15) (fr c p (m 14 c)) (m 14 c) v))) := by
  unfold qM_laysLabel
  simp (disch := omega) only [↓isO_M, ↓gL_H, ↓pL_H, ↓gI_M1, ↓gI_M2, ↓gI_M3, ↓gI_M4, ↓gI_M5, ↓gI_M6, ↓gI_M13, ↓gI_M22, ↓gI_M23, ↓gI_M24, ↓gI_M25, ↓gI_M27, ↓gI_M28, ↓gI_M29, ↓gI_M30, ↓gI_M31, ↓gI_M32, ↓gI_M33, ↓gI_M34, ↓gI_M35, ↓gI_M40, ↓gI_M41, ↓gI_M42, ↓gI_M43, ↓pV_M1, ↓pV_M2, ↓pV_M3, ↓pV_M4, ↓pV_M5, ↓pV_M6, ↓pV_M13, ↓pV_M22, ↓pV_M23, ↓pV_M24, ↓pV_M25, ↓pV_M27, ↓pV_M28, ↓pV_M29, ↓pV_M30, ↓pV_M31, ↓pV_M32, ↓pV_M33, ↓pV_M34, ↓pV_M35, ↓pV_M40, ↓pV_M41, ↓pV_M42, ↓pV_M43, ↓gR_M0, ↓gR_M7, ↓gR_M8, ↓gR_M9, ↓gR_M10, ↓gR_M11, ↓gR_M12, ↓gR_M14, ↓gR_M15, ↓gR_M16, ↓gR_M17, ↓gR_M18, ↓gR_M19, ↓gR_M20, ↓gR_M21, ↓gR_M36, ↓gR_M37, ↓gR_M38, ↓gR_M39, ↓rd_M1, ↓rd_M2, ↓rd_M3, ↓rd_M4, ↓rd_M5, ↓rd_M6, ↓rd_M7, ↓rd_M8, ↓rd_M9, ↓rd_M10, ↓rd_M11, ↓rd_M12, ↓rd_M13, ↓rd_M14, ↓rd_M15, ↓rd_M16, ↓rd_M17, ↓rd_M18, ↓rd_M19, ↓wr_M1, ↓wr_M2, ↓wr_M3, ↓wr_M4, ↓wr_M5, ↓wr_M6, ↓wr_M7, ↓wr_M8, ↓wr_M9, ↓wr_M10, ↓wr_M11, ↓wr_M12, ↓wr_M13, ↓wr_M14, ↓wr_M15, ↓wr_M16, ↓wr_M17, ↓wr_M18, ↓wr_M19, pL_H, pV_M1, pV_M2, pV_M3, pV_M4, pV_M5, pV_M6, pV_M13, pV_M22, pV_M23, pV_M24, pV_M25, pV_M27, pV_M28, pV_M29, pV_M30, pV_M31, pV_M32, pV_M33, pV_M34, pV_M35, pV_M40, pV_M41, pV_M42, pV_M43, rd_M1, rd_M2, rd_M3, rd_M4, rd_M5, rd_M6, rd_M7, rd_M8, rd_M9, rd_M10, rd_M11, rd_M12, rd_M13, rd_M14, rd_M15, rd_M16, rd_M17, rd_M18, rd_M19, wr_M1, wr_M2, wr_M3, wr_M4, wr_M5, wr_M6, wr_M7, wr_M8, wr_M9, wr_M10, wr_M11, wr_M12, wr_M13, wr_M14, wr_M15, wr_M16, wr_M17, wr_M18, wr_M19, J_l, J_neg, J_add, J_sub, J_mul, J_lt, J_le, J_eq, J_div2, J_rem2, J_shl1, J_orp, J_or, J_and, J_shr, J_ushr, J_max, J_min, J_abs, J_b0, ↓b0_ite, ↓b0_ite2, b0_ite, bI_r, bV_r, b01_ite, rZ_b, K_l, J_long, M_in, M_columnOf, M_rowOf, M_cell]
  rw [show 40 * fY c p + fX c p (m 14 c) = fr c p (m 14 c) from rfl]
  have key := loopI (S := Int) (fun N k => qM_laysLabel_19 N y (J c) (J v) (J (fr c p (m 14 c))) (J k) (hi y TM g w (rs m 15 (pnt (m 15) (fr c p (m 14 c)) k v)))) (fun X => X = rV (hi y TM g w (rs m 15 (pnt (m 15) (fr c p (m 14 c)) (m 14 c) v)))) (fun k => 0 ≤ k ∧ k ≤ m 14 c) (fun k => m 14 c - k) (by intro r hr; omega) (fun N k hk ih => by
    show qM_laysLabel_19_b (qM_laysLabel_19 N) y (J c) (J v) (J (fr c p (m 14 c))) (J k) (hi y TM g w (rs m 15 (pnt (m 15) (fr c p (m 14 c)) k v))) = _
    unfold qM_laysLabel_19_b
    have e14 : rs m 15 (pnt (m 15) (fr c p (m 14 c)) k v) 14 = m 14 := rs_ne (by decide)
    by_cases hc2 : k < m 14 c
    · have hi2 := fr_in (i := fr c p (m 14 c) + k) hc hw hh ho (by omega) (by omega)
      simp (disch := omega) only [↓isO_M, ↓gL_H, ↓pL_H, ↓gI_M1, ↓gI_M2, ↓gI_M3, ↓gI_M4, ↓gI_M5, ↓gI_M6, ↓gI_M13, ↓gI_M22, ↓gI_M23, ↓gI_M24, ↓gI_M25, ↓gI_M27, ↓gI_M28, ↓gI_M29, ↓gI_M30, ↓gI_M31, ↓gI_M32, ↓gI_M33, ↓gI_M34, ↓gI_M35, ↓gI_M40, ↓gI_M41, ↓gI_M42, ↓gI_M43, ↓pV_M1, ↓pV_M2, ↓pV_M3, ↓pV_M4, ↓pV_M5, ↓pV_M6, ↓pV_M13, ↓pV_M22, ↓pV_M23, ↓pV_M24, ↓pV_M25, ↓pV_M27, ↓pV_M28, ↓pV_M29, ↓pV_M30, ↓pV_M31, ↓pV_M32, ↓pV_M33, ↓pV_M34, ↓pV_M35, ↓pV_M40, ↓pV_M41, ↓pV_M42, ↓pV_M43, ↓gR_M0, ↓gR_M7, ↓gR_M8, ↓gR_M9, ↓gR_M10, ↓gR_M11, ↓gR_M12, ↓gR_M14, ↓gR_M15, ↓gR_M16, ↓gR_M17, ↓gR_M18, ↓gR_M19, ↓gR_M20, ↓gR_M21, ↓gR_M36, ↓gR_M37, ↓gR_M38, ↓gR_M39, ↓rd_M1, ↓rd_M2, ↓rd_M3, ↓rd_M4, ↓rd_M5, ↓rd_M6, ↓rd_M7, ↓rd_M8, ↓rd_M9, ↓rd_M10, ↓rd_M11, ↓rd_M12, ↓rd_M13, ↓rd_M14, ↓rd_M15, ↓rd_M16, ↓rd_M17, ↓rd_M18, ↓rd_M19, ↓wr_M1, ↓wr_M2, ↓wr_M3, ↓wr_M4, ↓wr_M5, ↓wr_M6, ↓wr_M7, ↓wr_M8, ↓wr_M9, ↓wr_M10, ↓wr_M11, ↓wr_M12, ↓wr_M13, ↓wr_M14, ↓wr_M15, ↓wr_M16, ↓wr_M17, ↓wr_M18, ↓wr_M19, pL_H, pV_M1, pV_M2, pV_M3, pV_M4, pV_M5, pV_M6, pV_M13, pV_M22, pV_M23, pV_M24, pV_M25, pV_M27, pV_M28, pV_M29, pV_M30, pV_M31, pV_M32, pV_M33, pV_M34, pV_M35, pV_M40, pV_M41, pV_M42, pV_M43, rd_M1, rd_M2, rd_M3, rd_M4, rd_M5, rd_M6, rd_M7, rd_M8, rd_M9, rd_M10, rd_M11, rd_M12, rd_M13, rd_M14, rd_M15, rd_M16, rd_M17, rd_M18, rd_M19, wr_M1, wr_M2, wr_M3, wr_M4, wr_M5, wr_M6, wr_M7, wr_M8, wr_M9, wr_M10, wr_M11, wr_M12, wr_M13, wr_M14, wr_M15, wr_M16, wr_M17, wr_M18, wr_M19, J_l, J_neg, J_add, J_sub, J_mul, J_lt, J_le, J_eq, J_div2, J_rem2, J_shl1, J_orp, J_or, J_and, J_shr, J_ushr, J_max, J_min, J_abs, J_b0, ↓b0_ite, ↓b0_ite2, b0_ite, bI_r, bV_r, b01_ite, rZ_b, K_l, J_long, M_in, e14, if_pos, rs_same, rs_rs]
      rw [pnt_s hk.1]
      exact ih (k + 1) (by omega) (by omega)
    · have e : k = m 14 c := by omega
      rw [← e]
      rw [e] at e14
      rw [← e] at e14
      simp (disch := omega) only [↓isO_M, ↓gL_H, ↓pL_H, ↓gI_M1, ↓gI_M2, ↓gI_M3, ↓gI_M4, ↓gI_M5, ↓gI_M6, ↓gI_M13, ↓gI_M22, ↓gI_M23, ↓gI_M24, ↓gI_M25, ↓gI_M27, ↓gI_M28, ↓gI_M29, ↓gI_M30, ↓gI_M31, ↓gI_M32, ↓gI_M33, ↓gI_M34, ↓gI_M35, ↓gI_M40, ↓gI_M41, ↓gI_M42, ↓gI_M43, ↓pV_M1, ↓pV_M2, ↓pV_M3, ↓pV_M4, ↓pV_M5, ↓pV_M6, ↓pV_M13, ↓pV_M22, ↓pV_M23, ↓pV_M24, ↓pV_M25, ↓pV_M27, ↓pV_M28, ↓pV_M29, ↓pV_M30, ↓pV_M31, ↓pV_M32, ↓pV_M33, ↓pV_M34, ↓pV_M35, ↓pV_M40, ↓pV_M41, ↓pV_M42, ↓pV_M43, ↓gR_M0, ↓gR_M7, ↓gR_M8, ↓gR_M9, ↓gR_M10, ↓gR_M11, ↓gR_M12, ↓gR_M14, ↓gR_M15, ↓gR_M16, ↓gR_M17, ↓gR_M18, ↓gR_M19, ↓gR_M20, ↓gR_M21, ↓gR_M36, ↓gR_M37, ↓gR_M38, ↓gR_M39, ↓rd_M1, ↓rd_M2, ↓rd_M3, ↓rd_M4, ↓rd_M5, ↓rd_M6, ↓rd_M7, ↓rd_M8, ↓rd_M9, ↓rd_M10, ↓rd_M11, ↓rd_M12, ↓rd_M13, ↓rd_M14, ↓rd_M15, ↓rd_M16, ↓rd_M17, ↓rd_M18, ↓rd_M19, ↓wr_M1, ↓wr_M2, ↓wr_M3, ↓wr_M4, ↓wr_M5, ↓wr_M6, ↓wr_M7, ↓wr_M8, ↓wr_M9, ↓wr_M10, ↓wr_M11, ↓wr_M12, ↓wr_M13, ↓wr_M14, ↓wr_M15, ↓wr_M16, ↓wr_M17, ↓wr_M18, ↓wr_M19, pL_H, pV_M1, pV_M2, pV_M3, pV_M4, pV_M5, pV_M6, pV_M13, pV_M22, pV_M23, pV_M24, pV_M25, pV_M27, pV_M28, pV_M29, pV_M30, pV_M31, pV_M32, pV_M33, pV_M34, pV_M35, pV_M40, pV_M41, pV_M42, pV_M43, rd_M1, rd_M2, rd_M3, rd_M4, rd_M5, rd_M6, rd_M7, rd_M8, rd_M9, rd_M10, rd_M11, rd_M12, rd_M13, rd_M14, rd_M15, rd_M16, rd_M17, rd_M18, rd_M19, wr_M1, wr_M2, wr_M3, wr_M4, wr_M5, wr_M6, wr_M7, wr_M8, wr_M9, wr_M10, wr_M11, wr_M12, wr_M13, wr_M14, wr_M15, wr_M16, wr_M17, wr_M18, wr_M19, J_l, J_neg, J_add, J_sub, J_mul, J_lt, J_le, J_eq, J_div2, J_rem2, J_shl1, J_orp, J_or, J_and, J_shr, J_ushr, J_max, J_min, J_abs, J_b0, ↓b0_ite, ↓b0_ite2, b0_ite, bI_r, bV_r, b01_ite, rZ_b, K_l, J_long, M_in, e14, if_neg]) 0 (by omega) (by omega)
  rw [pnt_0, rs_self] at key
  exact key
end WH
