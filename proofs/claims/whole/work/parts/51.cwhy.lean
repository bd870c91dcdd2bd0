/-! the class's labels on the board -/
section CW
variable {z : Nat} {g : XH} {w : Int64} {s : CT} {c p L k i f v u j x yy : Int} {h : XH}
theorem C_columnOf (hc : 0 ≤ c ∧ c < 1600) : qD_columnOf (J c) h = rI (J (c % 40)) h := by
  unfold qD_columnOf
  simp (disch := omega) only [J_l, J_neg, J_add, J_sub, J_mul, J_lt, J_le, J_eq, J_div2, J_rem2, J_shl1, J_orp, J_or, J_and, J_shr, J_ushr, J_max, J_min, J_abs, J_b0, ↓b0_ite, ↓b0_ite2, b0_ite, bI_r, bV_r, b01_ite, rZ_b, K_l, J_long, M_in]
theorem C_rowOf (hc : 0 ≤ c ∧ c < 1600) : qD_rowOf (J c) h = rI (J (c / 40)) h := by
  unfold qD_rowOf
  simp (disch := omega) only [J_l, J_neg, J_add, J_sub, J_mul, J_lt, J_le, J_eq, J_div2, J_rem2, J_shl1, J_orp, J_or, J_and, J_shr, J_ushr, J_max, J_min, J_abs, J_b0, ↓b0_ite, ↓b0_ite2, b0_ite, bI_r, bV_r, b01_ite, rZ_b, K_l, J_long, M_in]
theorem C_codeOf (hc : 0 ≤ c ∧ c < 1600) : qD_codeOf (J c) h = rI (J (64 * (c / 40) + c % 40)) h := by
  unfold qD_codeOf
  simp (disch := omega) only [J_l, J_neg, J_add, J_sub, J_mul, J_lt, J_le, J_eq, J_div2, J_rem2, J_shl1, J_orp, J_or, J_and, J_shr, J_ushr, J_max, J_min, J_abs, J_b0, ↓b0_ite, ↓b0_ite2, b0_ite, bI_r, bV_r, b01_ite, rZ_b, K_l, J_long, M_in, C_columnOf, C_rowOf]
theorem C_columnsTo (hp : 0 ≤ p ∧ p < 8) (hL : 0 ≤ L ∧ L ≤ 12) : qB_columnsTo (J p) (J L) h = rI (J (fX c p L - c % 40)) h := by
  unfold qB_columnsTo fX
  simp (disch := omega) only [J_l, J_neg, J_add, J_sub, J_mul, J_lt, J_le, J_eq, J_div2, J_rem2, J_shl1, J_orp, J_or, J_and, J_shr, J_ushr, J_max, J_min, J_abs, J_b0, ↓b0_ite, ↓b0_ite2, b0_ite, bI_r, bV_r, b01_ite, rZ_b, K_l, J_long, M_in]
  (repeat' split) <;> first | (exfalso; omega) | (refine congrArg (fun v => rI (J v) h) ?_; omega)
theorem C_rowsTo (hp : 0 ≤ p ∧ p < 8) : qB_rowsTo (J p) h = rI (J (fY c p - c / 40)) h := by
  unfold qB_rowsTo fY
  simp (disch := omega) only [J_l, J_neg, J_add, J_sub, J_mul, J_lt, J_le, J_eq, J_div2, J_rem2, J_shl1, J_orp, J_or, J_and, J_shr, J_ushr, J_max, J_min, J_abs, J_b0, ↓b0_ite, ↓b0_ite2, b0_ite, bI_r, bV_r, b01_ite, rZ_b, K_l, J_long, M_in]
  (repeat' split) <;> first | (exfalso; omega) | (refine congrArg (fun v => rI (J v) h) ?_; omega)
theorem C_holds (hx : -1000 ≤ x ∧ x < 1000) (hy : -1000 ≤ yy ∧ yy < 1000) (hw : 4 ≤ s 300 0 ∧ s 300 0 ≤ 40) (hh : 4 ≤ s 300 1 ∧ s 300 1 ≤ 40) : qB_holds (z + 300) (J x) (J yy) (hi z TD g w s) = rI (J (b01 ((0 ≤ x ∧ x < s 300 0) ∧ 0 ≤ yy ∧ yy < s 300 1))) (hi z TD g w s) := by
  unfold qB_holds
  simp (disch := omega) only [↓gR_D0, ↓gR_D1, ↓gR_D2, ↓gR_D3, ↓gR_D4, ↓gR_D5, ↓gR_D6, ↓gR_D7, ↓gR_D8, ↓gR_D9, ↓gR_D10, ↓gI_D11, ↓pV_D11, ↓isO_D, ↓gI_T0, ↓pV_T0, ↓gR_T1, ↓isO_T, ↓rd_T2, ↓wr_T2, ↓gI_U0, ↓pV_U0, ↓gR_U1, ↓isO_U, ↓rd_U2, ↓wr_U2, ↓gI_Ps0, ↓pV_Ps0, ↓gI_Ps1, ↓pV_Ps1, ↓gI_Ps2, ↓pV_Ps2, ↓gI_Ps3, ↓pV_Ps3, ↓gI_Ps4, ↓pV_Ps4, ↓isO_Ps, ↓gI_N0, ↓pV_N0, ↓gI_N1, ↓pV_N1, ↓gI_N2, ↓pV_N2, ↓gI_N3, ↓pV_N3, ↓gR_N4, ↓gR_N5, ↓isO_N, ↓rd_NL, ↓gI_NB0, ↓pV_NB0, ↓gR_NB1, ↓gR_NB2, ↓isO_NB, ↓rd_NC, ↓wr_NC, ↓ln_NC, ↓rd_NP, ↓wr_NP, ↓ln_NP, ↓gI_V0, ↓pV_V0, ↓gI_V1, ↓pV_V1, ↓gI_V2, ↓pV_V2, ↓gI_V3, ↓pV_V3, ↓gR_V4, ↓gR_V5, ↓isO_V, ↓rd_VL, ↓gI_VB0, ↓pV_VB0, ↓gR_VB1, ↓gR_VB2, ↓isO_VB, ↓rd_VC, ↓wr_VC, ↓ln_VC, ↓rd_VP, ↓wr_VP, ↓ln_VP, ↓rd_SL, ↓rd_KP, ↓wr_KP, ↓gI_H0, ↓pV_H0, ↓gI_H1, ↓pV_H1, ↓gR_H2, ↓isO_H, ↓rd_HP, ↓gI_B0, ↓pV_B0, ↓gI_B1, ↓pV_B1, ↓gR_B2, ↓gR_B3, ↓gR_B4, ↓gR_B5, ↓gR_B6, ↓gR_B7, ↓gR_B8, ↓isO_B, ↓rd_B301, ↓wr_B301, ↓ln_B301, ↓rd_B302, ↓wr_B302, ↓ln_B302, ↓rd_B303, ↓wr_B303, ↓ln_B303, ↓rd_B304, ↓wr_B304, ↓ln_B304, ↓rd_B305, ↓wr_B305, ↓ln_B305, ↓rd_B306, ↓wr_B306, ↓ln_B306, ↓rd_B307, ↓wr_B307, ↓ln_B307, ↓gR_Tv, ↓isO_Tv, ↓rd_Tv9, ↓wr_Tv9, ↓ln_Tv9, pV_D11, pV_T0, rd_T2, wr_T2, pV_U0, rd_U2, wr_U2, pV_Ps0, pV_Ps1, pV_Ps2, pV_Ps3, pV_Ps4, pV_N0, pV_N1, pV_N2, pV_N3, rd_NL, pV_NB0, rd_NC, wr_NC, rd_NP, wr_NP, pV_V0, pV_V1, pV_V2, pV_V3, rd_VL, pV_VB0, rd_VC, wr_VC, rd_VP, wr_VP, rd_SL, rd_KP, wr_KP, pV_H0, pV_H1, rd_HP, pV_B0, pV_B1, rd_B301, wr_B301, rd_B302, wr_B302, rd_B303, wr_B303, rd_B304, wr_B304, rd_B305, wr_B305, rd_B306, wr_B306, rd_B307, wr_B307, rd_Tv9, wr_Tv9, J_l, J_neg, J_add, J_sub, J_mul, J_lt, J_le, J_eq, J_div2, J_rem2, J_shl1, J_orp, J_or, J_and, J_shr, J_ushr, J_max, J_min, J_abs, J_b0, ↓b0_ite, ↓b0_ite2, b0_ite, bI_r, bV_r, b01_ite, rZ_b, K_l, J_long, M_in]
  (repeat' split) <;> first | (rw [b01_pos (by omega)]) | (rw [b01_neg (by omega)]) | exact congrArg (fun v => rI (J v) _) (b01_congr (by omega)) | rfl
/-- what the board must hold for asking why -/
def RsI (s : CT) : Prop := (4 ≤ s 300 0 ∧ s 300 0 ≤ 40) ∧ (4 ≤ s 300 1 ∧ s 300 1 ≤ 40) ∧ (∀ i, 0 ≤ i → i < 1600 → (0 ≤ s 301 i ∧ s 301 i ≤ 255) ∧ (0 ≤ s 305 i ∧ s 305 i ≤ 12) ∧ 0 ≤ s 306 i ∧ s 306 i ≤ 1600)
theorem C_beginOf (hc : 0 ≤ c ∧ c < 1600) (hp : 0 ≤ p ∧ p < 8) (hI : RsI s) (hL : 1 ≤ s 305 c) : qB_beginOf (z + 300) (J c) (J p) (hi z TD g w s) = rI (J (@ite Int (offP (s 300 0) (s 300 1) c p (s 305 c)) (Classical.propDecidable _) (-1) (fr c p (s 305 c)))) (hi z TD g w s) := by
  obtain ⟨hw, hh, hx⟩ := hI
  have hL2 := (hx c hc.1 hc.2).2.1
  have d1 := fX_bd (p := p) hc hL2
  have d2 := fY_bd (p := p) hc
  unfold qB_beginOf
  simp (disch := omega) only [↓gR_D0, ↓gR_D1, ↓gR_D2, ↓gR_D3, ↓gR_D4, ↓gR_D5, ↓gR_D6, ↓gR_D7, ↓gR_D8, ↓gR_D9, ↓gR_D10, ↓gI_D11, ↓pV_D11, ↓isO_D, ↓gI_T0, ↓pV_T0, ↓gR_T1, ↓isO_T, ↓rd_T2, ↓wr_T2, ↓gI_U0, ↓pV_U0, ↓gR_U1, ↓isO_U, ↓rd_U2, ↓wr_U2, ↓gI_Ps0, ↓pV_Ps0, ↓gI_Ps1, ↓pV_Ps1, ↓gI_Ps2, ↓pV_Ps2, ↓gI_Ps3, ↓pV_Ps3, ↓gI_Ps4, ↓pV_Ps4, ↓isO_Ps, ↓gI_N0, ↓pV_N0, ↓gI_N1, ↓pV_N1, ↓gI_N2, ↓pV_N2, ↓gI_N3, ↓pV_N3, ↓gR_N4, ↓gR_N5, ↓isO_N, ↓rd_NL, ↓gI_NB0, ↓pV_NB0, ↓gR_NB1, ↓gR_NB2, ↓isO_NB, ↓rd_NC, ↓wr_NC, ↓ln_NC, ↓rd_NP, ↓wr_NP, ↓ln_NP, ↓gI_V0, ↓pV_V0, ↓gI_V1, ↓pV_V1, ↓gI_V2, ↓pV_V2, ↓gI_V3, ↓pV_V3, ↓gR_V4, ↓gR_V5, ↓isO_V, ↓rd_VL, ↓gI_VB0, ↓pV_VB0, ↓gR_VB1, ↓gR_VB2, ↓isO_VB, ↓rd_VC, ↓wr_VC, ↓ln_VC, ↓rd_VP, ↓wr_VP, ↓ln_VP, ↓rd_SL, ↓rd_KP, ↓wr_KP, ↓gI_H0, ↓pV_H0, ↓gI_H1, ↓pV_H1, ↓gR_H2, ↓isO_H, ↓rd_HP, ↓gI_B0, ↓pV_B0, ↓gI_B1, ↓pV_B1, ↓gR_B2, ↓gR_B3, ↓gR_B4, ↓gR_B5, ↓gR_B6, ↓gR_B7, ↓gR_B8, ↓isO_B, ↓rd_B301, ↓wr_B301, ↓ln_B301, ↓rd_B302, ↓wr_B302, ↓ln_B302, ↓rd_B303, ↓wr_B303, ↓ln_B303, ↓rd_B304, ↓wr_B304, ↓ln_B304, ↓rd_B305, ↓wr_B305, ↓ln_B305, ↓rd_B306, ↓wr_B306, ↓ln_B306, ↓rd_B307, ↓wr_B307, ↓ln_B307, ↓gR_Tv, ↓isO_Tv, ↓rd_Tv9, ↓wr_Tv9, ↓ln_Tv9, pV_D11, pV_T0, rd_T2, wr_T2, pV_U0, rd_U2, wr_U2, pV_Ps0, pV_Ps1, pV_Ps2, pV_Ps3, pV_Ps4, pV_N0, pV_N1, pV_N2, pV_N3, rd_NL, pV_NB0, rd_NC, wr_NC, rd_NP, wr_NP, pV_V0, pV_V1, pV_V2, pV_V3, rd_VL, pV_VB0, rd_VC, wr_VC, rd_VP, wr_VP, rd_SL, rd_KP, wr_KP, pV_H0, pV_H1, rd_HP, pV_B0, pV_B1, rd_B301, wr_B301, rd_B302, wr_B302, rd_B303, wr_B303, rd_B304, wr_B304, rd_B305, wr_B305, rd_B306, wr_B306, rd_B307, wr_B307, rd_Tv9, wr_Tv9, J_l, J_neg, J_add, J_sub, J_mul, J_lt, J_le, J_eq, J_div2, J_rem2, J_shl1, J_orp, J_or, J_and, J_shr, J_ushr, J_max, J_min, J_abs, J_b0, ↓b0_ite, ↓b0_ite2, b0_ite, bI_r, bV_r, b01_ite, rZ_b, K_l, J_long, M_in, C_columnOf hc, C_rowOf hc, C_columnsTo (c := c) hp hL2, C_rowsTo (c := c) hp]
  rw [show c % 40 + (fX c p (s 305 c) - c % 40) = fX c p (s 305 c) by omega, show c / 40 + (fY c p - c / 40) = fY c p by omega]
  rw [C_holds (by omega) (by omega) hw hh]
  simp (disch := omega) only [J_l, J_neg, J_add, J_sub, J_mul, J_lt, J_le, J_eq, J_div2, J_rem2, J_shl1, J_orp, J_or, J_and, J_shr, J_ushr, J_max, J_min, J_abs, J_b0, ↓b0_ite, ↓b0_ite2, b0_ite, bI_r, bV_r, b01_ite, rZ_b, K_l, J_long, M_in]
  by_cases h1 : (0 ≤ fX c p (s 305 c) ∧ fX c p (s 305 c) < s 300 0) ∧ 0 ≤ fY c p ∧ fY c p < s 300 1
  · rw [if_pos h1]
    simp (disch := omega) only [↓gR_D0, ↓gR_D1, ↓gR_D2, ↓gR_D3, ↓gR_D4, ↓gR_D5, ↓gR_D6, ↓gR_D7, ↓gR_D8, ↓gR_D9, ↓gR_D10, ↓gI_D11, ↓pV_D11, ↓isO_D, ↓gI_T0, ↓pV_T0, ↓gR_T1, ↓isO_T, ↓rd_T2, ↓wr_T2, ↓gI_U0, ↓pV_U0, ↓gR_U1, ↓isO_U, ↓rd_U2, ↓wr_U2, ↓gI_Ps0, ↓pV_Ps0, ↓gI_Ps1, ↓pV_Ps1, ↓gI_Ps2, ↓pV_Ps2, ↓gI_Ps3, ↓pV_Ps3, ↓gI_Ps4, ↓pV_Ps4, ↓isO_Ps, ↓gI_N0, ↓pV_N0, ↓gI_N1, ↓pV_N1, ↓gI_N2, ↓pV_N2, ↓gI_N3, ↓pV_N3, ↓gR_N4, ↓gR_N5, ↓isO_N, ↓rd_NL, ↓gI_NB0, ↓pV_NB0, ↓gR_NB1, ↓gR_NB2, ↓isO_NB, ↓rd_NC, ↓wr_NC, ↓ln_NC, ↓rd_NP, ↓wr_NP, ↓ln_NP, ↓gI_V0, ↓pV_V0, ↓gI_V1, ↓pV_V1, ↓gI_V2, ↓pV_V2, ↓gI_V3, ↓pV_V3, ↓gR_V4, ↓gR_V5, ↓isO_V, ↓rd_VL, ↓gI_VB0, ↓pV_VB0, ↓gR_VB1, ↓gR_VB2, ↓isO_VB, ↓rd_VC, ↓wr_VC, ↓ln_VC, ↓rd_VP, ↓wr_VP, ↓ln_VP, ↓rd_SL, ↓rd_KP, ↓wr_KP, ↓gI_H0, ↓pV_H0, ↓gI_H1, ↓pV_H1, ↓gR_H2, ↓isO_H, ↓rd_HP, ↓gI_B0, ↓pV_B0, ↓gI_B1, ↓pV_B1, ↓gR_B2, ↓gR_B3, ↓gR_B4, ↓gR_B5, ↓gR_B6, ↓gR_B7, ↓gR_B8, ↓isO_B, ↓rd_B301, ↓wr_B301, ↓ln_B301, ↓rd_B302, ↓wr_B302, ↓ln_B302, ↓rd_B303, ↓wr_B303, ↓ln_B303, ↓rd_B304, ↓wr_B304, ↓ln_B304, ↓rd_B305, ↓wr_B305, ↓ln_B305, ↓rd_B306, ↓wr_B306, ↓ln_B306, ↓rd_B307, ↓wr_B307, ↓ln_B307, ↓gR_Tv, ↓isO_Tv, ↓rd_Tv9, ↓wr_Tv9, ↓ln_Tv9, pV_D11, pV_T0, rd_T2, wr_T2, pV_U0, rd_U2, wr_U2, pV_Ps0, pV_Ps1, pV_Ps2, pV_Ps3, pV_Ps4, pV_N0, pV_N1, pV_N2, pV_N3, rd_NL, pV_NB0, rd_NC, wr_NC, rd_NP, wr_NP, pV_V0, pV_V1, pV_V2, pV_V3, rd_VL, pV_VB0, rd_VC, wr_VC, rd_VP, wr_VP, rd_SL, rd_KP, wr_KP, pV_H0, pV_H1, rd_HP, pV_B0, pV_B1, rd_B301, wr_B301, rd_B302, wr_B302, rd_B303, wr_B303, rd_B304, wr_B304, rd_B305, wr_B305, rd_B306, wr_B306, rd_B307, wr_B307, rd_Tv9, wr_Tv9, J_l, J_neg, J_add, J_sub, J_mul, J_lt, J_le, J_eq, J_div2, J_rem2, J_shl1, J_orp, J_or, J_and, J_shr, J_ushr, J_max, J_min, J_abs, J_b0, ↓b0_ite, ↓b0_ite2, b0_ite, bI_r, bV_r, b01_ite, rZ_b, K_l, J_long, M_in]
    rw [C_holds (by omega) (by omega) hw hh]
    simp (disch := omega) only [J_l, J_neg, J_add, J_sub, J_mul, J_lt, J_le, J_eq, J_div2, J_rem2, J_shl1, J_orp, J_or, J_and, J_shr, J_ushr, J_max, J_min, J_abs, J_b0, ↓b0_ite, ↓b0_ite2, b0_ite, bI_r, bV_r, b01_ite, rZ_b, K_l, J_long, M_in, C_cellAt]
    by_cases h2 : (0 ≤ fX c p (s 305 c) + s 305 c - 1 ∧ fX c p (s 305 c) + s 305 c - 1 < s 300 0) ∧ 0 ≤ fY c p ∧ fY c p < s 300 1
    · rw [if_pos h2, if_neg (show ¬offP (s 300 0) (s 300 1) c p (s 305 c) by unfold offP; omega)]
      rfl
    · rw [if_neg h2, if_pos (show offP (s 300 0) (s 300 1) c p (s 305 c) by unfold offP; omega)]
  · rw [if_neg h1, if_pos (show offP (s 300 0) (s 300 1) c p (s 305 c) by unfold offP; omega)]
noncomputable def whyC (s : CT) (c p : Int) : Int := whyP (s 301) (s 305) (fun i => s 306 i - 1) (s 300 0) (s 300 1) c p
theorem C_reason (hc : 0 ≤ c ∧ c < 1600) (hp : 0 ≤ p ∧ p < 8) (hI : RsI s) (hL : 1 ≤ s 305 c) : qB_reason (z + 300) (J c) (J p) (hi z TD g w s) = rI (J (whyC s c p)) (hi z TD g w s) := by
  have hbeg := C_beginOf (z := z) (g := g) (w := w) hc hp hI hL
  obtain ⟨hw, hh, hx⟩ := hI
  have hL2 := (hx c hc.1 hc.2).2.1
  unfold qB_reason whyC
  simp (disch := omega) only [↓gR_D0, ↓gR_D1, ↓gR_D2, ↓gR_D3, ↓gR_D4, ↓gR_D5, ↓gR_D6, ↓gR_D7, ↓gR_D8, ↓gR_D9, ↓gR_D10, ↓gI_D11, ↓pV_D11, ↓isO_D, ↓gI_T0, ↓pV_T0, ↓gR_T1, ↓isO_T, ↓rd_T2, ↓wr_T2, ↓gI_U0, ↓pV_U0, ↓gR_U1, ↓isO_U, ↓rd_U2, ↓wr_U2, ↓gI_Ps0, ↓pV_Ps0, ↓gI_Ps1, ↓pV_Ps1, ↓gI_Ps2, ↓pV_Ps2, ↓gI_Ps3, ↓pV_Ps3, ↓gI_Ps4, ↓pV_Ps4, ↓isO_Ps, ↓gI_N0, ↓pV_N0, ↓gI_N1, ↓pV_N1, ↓gI_N2, ↓pV_N2, ↓gI_N3, ↓pV_N3, ↓gR_N4, ↓gR_N5, ↓isO_N, ↓rd_NL, ↓gI_NB0, ↓pV_NB0, ↓gR_NB1, ↓gR_NB2, ↓isO_NB, ↓rd_NC, ↓wr_NC, ↓ln_NC, ↓rd_NP, ↓wr_NP, ↓ln_NP, ↓gI_V0, ↓pV_V0, ↓gI_V1, ↓pV_V1, ↓gI_V2, ↓pV_V2, ↓gI_V3, ↓pV_V3, ↓gR_V4, ↓gR_V5, ↓isO_V, ↓rd_VL, ↓gI_VB0, ↓pV_VB0, ↓gR_VB1, ↓gR_VB2, ↓isO_VB, ↓rd_VC, ↓wr_VC, ↓ln_VC, ↓rd_VP, ↓wr_VP, ↓ln_VP, ↓rd_SL, ↓rd_KP, ↓wr_KP, ↓gI_H0, ↓pV_H0, ↓gI_H1, ↓pV_H1, ↓gR_H2, ↓isO_H, ↓rd_HP, ↓gI_B0, ↓pV_B0, ↓gI_B1, ↓pV_B1, ↓gR_B2, ↓gR_B3, ↓gR_B4, ↓gR_B5, ↓gR_B6, ↓gR_B7, ↓gR_B8, ↓isO_B, ↓rd_B301, ↓wr_B301, ↓ln_B301, ↓rd_B302, ↓wr_B302, ↓ln_B302, ↓rd_B303, ↓wr_B303, ↓ln_B303, ↓rd_B304, ↓wr_B304, ↓ln_B304, ↓rd_B305, ↓wr_B305, ↓ln_B305, ↓rd_B306, ↓wr_B306, ↓ln_B306, ↓rd_B307, ↓wr_B307, ↓ln_B307, ↓gR_Tv, ↓isO_Tv, ↓rd_Tv9, ↓wr_Tv9, ↓ln_Tv9, pV_D11, pV_T0, rd_T2, wr_T2, pV_U0, rd_U2, wr_U2, pV_Ps0, pV_Ps1, pV_Ps2, pV_Ps3, pV_Ps4, pV_N0, pV_N1, pV_N2, pV_N3, rd_NL, pV_NB0, rd_NC, wr_NC, rd_NP, wr_NP, pV_V0, pV_V1, pV_V2, pV_V3, rd_VL, pV_VB0, rd_VC, wr_VC, rd_VP, wr_VP, rd_SL, rd_KP, wr_KP, pV_H0, pV_H1, rd_HP, pV_B0, pV_B1, rd_B301, wr_B301, rd_B302, wr_B302, rd_B303, wr_B303, rd_B304, wr_B304, rd_B305, wr_B305, rd_B306, wr_B306, rd_B307, wr_B307, rd_Tv9, wr_Tv9, J_l, J_neg, J_add, J_sub, J_mul, J_lt, J_le, J_eq, J_div2, J_rem2, J_shl1, J_orp, J_or, J_and, J_shr, J_ushr, J_max, J_min, J_abs, J_b0, ↓b0_ite, ↓b0_ite2, b0_ite, bI_r, bV_r, b01_ite, rZ_b, K_l, J_long, M_in, hbeg]
  by_cases ho : offP (s 300 0) (s 300 1) c p (s 305 c)
  · rw [if_pos ho, why_off ho]
    simp (disch := omega) only [J_l, J_neg, J_add, J_sub, J_mul, J_lt, J_le, J_eq, J_div2, J_rem2, J_shl1, J_orp, J_or, J_and, J_shr, J_ushr, J_max, J_min, J_abs, J_b0, ↓b0_ite, ↓b0_ite2, b0_ite, bI_r, bV_r, b01_ite, rZ_b, K_l, J_long, M_in, if_pos]
  · rw [if_neg ho]
    have hf := fr_in (i := fr c p (s 305 c)) hc hw hh ho (by omega) (by omega)
    simp (disch := omega) only [J_l, J_neg, J_add, J_sub, J_mul, J_lt, J_le, J_eq, J_div2, J_rem2, J_shl1, J_orp, J_or, J_and, J_shr, J_ushr, J_max, J_min, J_abs, J_b0, ↓b0_ite, ↓b0_ite2, b0_ite, bI_r, bV_r, b01_ite, rZ_b, K_l, J_long, M_in, if_neg]
    have key := loopI (S := Int × Int) (fun N q => qB_reason_20 N (z + 300) (J c) (J (fr c p (s 305 c))) (J q.2) (J (fr c p (s 305 c) + q.1)) (hi z TD g w s)) (fun X => X = rI (J (whyP (s 301) (s 305) (fun i => s 306 i - 1) (s 300 0) (s 300 1) c p)) (hi z TD g w s)) (fun q => (0 ≤ q.1 ∧ q.1 ≤ s 305 c) ∧ ¬onLn (s 301) (fr c p (s 305 c)) q.1 ∧ ((q.2 = 0 ∧ ¬onLb (fun i => s 306 i - 1) (fr c p (s 305 c)) q.1 c) ∨ (q.2 = -7 ∧ onLb (fun i => s 306 i - 1) (fr c p (s 305 c)) q.1 c))) (fun q => s 305 c - q.1) (by intro r hr; omega) (fun N q hq ih => by
      obtain ⟨k, a⟩ := q
      obtain ⟨⟨hk, hk2⟩, hl, hb⟩ := hq
      change 0 ≤ k at hk
      change k ≤ s 305 c at hk2
      change ¬onLn (s 301) (fr c p (s 305 c)) k at hl
      change (a = 0 ∧ ¬onLb (fun i => s 306 i - 1) (fr c p (s 305 c)) k c) ∨ (a = -7 ∧ onLb (fun i => s 306 i - 1) (fr c p (s 305 c)) k c) at hb
      show qB_reason_20_b (qB_reason_20 N) (z + 300) (J c) (J (fr c p (s 305 c))) (J a) (J (fr c p (s 305 c) + k)) (hi z TD g w s) = _
      unfold qB_reason_20_b
      have hf2 : -1 ≤ fr c p (s 305 c) ∧ fr c p (s 305 c) < 1600 := by omega
      by_cases hc2 : k < s 305 c
      · have hi2 := fr_in (i := fr c p (s 305 c) + k) hc hw hh ho (by omega) (by omega)
        have hv := hx _ hi2.1 hi2.2
        simp (disch := omega) only [↓gR_D0, ↓gR_D1, ↓gR_D2, ↓gR_D3, ↓gR_D4, ↓gR_D5, ↓gR_D6, ↓gR_D7, ↓gR_D8, ↓gR_D9, ↓gR_D10, ↓gI_D11, ↓pV_D11, ↓isO_D, ↓gI_T0, ↓pV_T0, ↓gR_T1, ↓isO_T, ↓rd_T2, ↓wr_T2, ↓gI_U0, ↓pV_U0, ↓gR_U1, ↓isO_U, ↓rd_U2, ↓wr_U2, ↓gI_Ps0, ↓pV_Ps0, ↓gI_Ps1, ↓pV_Ps1, ↓gI_Ps2, ↓pV_Ps2, ↓gI_Ps3, ↓pV_Ps3, ↓gI_Ps4, ↓pV_Ps4, ↓isO_Ps, ↓gI_N0, ↓pV_N0, ↓gI_N1, ↓pV_N1, ↓gI_N2, ↓pV_N2, ↓gI_N3, ↓pV_N3, ↓gR_N4, ↓gR_N5, ↓isO_N, ↓rd_NL, ↓gI_NB0, ↓pV_NB0, ↓gR_NB1, ↓gR_NB2, ↓isO_NB, ↓rd_NC, ↓wr_NC, ↓ln_NC, ↓rd_NP, ↓wr_NP, ↓ln_NP, ↓gI_V0, ↓pV_V0, ↓gI_V1, ↓pV_V1, ↓gI_V2, ↓pV_V2, ↓gI_V3, ↓pV_V3, ↓gR_V4, ↓gR_V5, ↓isO_V, ↓rd_VL, ↓gI_VB0, ↓pV_VB0, ↓gR_VB1, ↓gR_VB2, ↓isO_VB, ↓rd_VC, ↓wr_VC, ↓ln_VC, ↓rd_VP, ↓wr_VP, ↓ln_VP, ↓rd_SL, ↓rd_KP, ↓wr_KP, ↓gI_H0, ↓pV_H0, ↓gI_H1, ↓pV_H1, ↓gR_H2, ↓isO_H, ↓rd_HP, ↓gI_B0, ↓pV_B0, ↓gI_B1, ↓pV_B1, ↓gR_B2, ↓gR_B3, ↓gR_B4, ↓gR_B5, ↓gR_B6, ↓gR_B7, ↓gR_B8, ↓isO_B, ↓rd_B301, ↓wr_B301, ↓ln_B301, ↓rd_B302, ↓wr_B302, ↓ln_B302, ↓rd_B303, ↓wr_B303, ↓ln_B303, ↓rd_B304, ↓wr_B304, ↓ln_B304, ↓rd_B305, ↓wr_B305, ↓ln_B305, ↓rd_B306, ↓wr_B306, ↓ln_B306, ↓rd_B307, ↓wr_B307, ↓ln_B307, ↓gR_Tv, ↓isO_Tv, ↓rd_Tv9, ↓wr_Tv9, ↓ln_Tv9, pV_D11, pV_T0, rd_T2, wr_T2, pV_U0, rd_U2, wr_U2, pV_Ps0, pV_Ps1, pV_Ps2, pV_Ps3, pV_Ps4, pV_N0, pV_N1, pV_N2, pV_N3, rd_NL, pV_NB0, rd_NC, wr_NC, rd_NP, wr_NP, pV_V0, pV_V1, pV_V2, pV_V3, rd_VL, pV_VB0, rd_VC, wr_VC, rd_VP, wr_VP, rd_SL, rd_KP, wr_KP, pV_H0, pV_H1, rd_HP, pV_B0, pV_B1, rd_B301, wr_B301, rd_B302, wr_B302, rd_B303, wr_B303, rd_B304, wr_B304, rd_B305, wr_B305, rd_B306, wr_B306, rd_B307, wr_B307, rd_Tv9, wr_Tv9, J_l, J_neg, J_add, J_sub, J_mul, J_lt, J_le, J_eq, J_div2, J_rem2, J_shl1, J_orp, J_or, J_and, J_shr, J_ushr, J_max, J_min, J_abs, J_b0, ↓b0_ite, ↓b0_ite2, b0_ite, bI_r, bV_r, b01_ite, rZ_b, K_l, J_long, M_in, if_pos]
        by_cases h3 : s 301 (fr c p (s 305 c) + k) = 0
        · rw [if_pos h3]
          have hl' : ¬onLn (s 301) (fr c p (s 305 c)) (k + 1) := by
            rintro ⟨i, i1, i2, i3⟩
            by_cases h4 : i < fr c p (s 305 c) + k
            · exact hl ⟨i, i1, h4, i3⟩
            · rw [show i = fr c p (s 305 c) + k by omega] at i3; exact i3 h3
          have hb1 : ∀ P : Prop, ¬oth (fun i => s 306 i - 1) c (fr c p (s 305 c) + k) → (onLb (fun i => s 306 i - 1) (fr c p (s 305 c)) (k + 1) c ↔ onLb (fun i => s 306 i - 1) (fr c p (s 305 c)) k c) := by
            intro P hn
            constructor
            · rintro ⟨i, i1, i2, i3⟩
              by_cases h4 : i < fr c p (s 305 c) + k
              · exact ⟨i, i1, h4, i3⟩
              · rw [show i = fr c p (s 305 c) + k by omega] at i3; exact absurd i3 hn
            · rintro ⟨i, i1, i2, i3⟩
              exact ⟨i, i1, by omega, i3⟩
          have hkeep : ¬oth (fun i => s 306 i - 1) c (fr c p (s 305 c) + k) → qB_reason_20 N (z + 300) (J c) (J (fr c p (s 305 c))) (J a) (J (fr c p (s 305 c) + k + 1)) (hi z TD g w s) = rI (J (whyP (s 301) (s 305) (fun i => s 306 i - 1) (s 300 0) (s 300 1) c p)) (hi z TD g w s) := by
            intro hn
            have := ih (k + 1, a) ⟨⟨by show 0 ≤ k + 1; omega, by show k + 1 ≤ s 305 c; omega⟩, hl', by
              show (a = 0 ∧ ¬onLb (fun i => s 306 i - 1) (fr c p (s 305 c)) (k + 1) c) ∨ (a = -7 ∧ onLb (fun i => s 306 i - 1) (fr c p (s 305 c)) (k + 1) c)
              rw [hb1 True hn]; exact hb⟩ (by show s 305 c - (k + 1) < s 305 c - k; omega)
            simp only [← Int.add_assoc] at this
            exact this
          by_cases h5 : s 306 (fr c p (s 305 c) + k) = 0
          · rw [if_pos h5]
            exact hkeep (fun hn => by have := hn.1; change 0 ≤ s 306 (fr c p (s 305 c) + k) - 1 at this; omega)
          · rw [if_neg h5]
            by_cases h6 : s 306 (fr c p (s 305 c) + k) = c + 1
            · rw [if_pos h6]
              exact hkeep (fun hn => by have := hn.2; change s 306 (fr c p (s 305 c) + k) - 1 ≠ c at this; omega)
            · rw [if_neg h6]
              have hyes : onLb (fun i => s 306 i - 1) (fr c p (s 305 c)) (k + 1) c := ⟨fr c p (s 305 c) + k, by omega, by omega, by show 0 ≤ s 306 (fr c p (s 305 c) + k) - 1; omega, by show s 306 (fr c p (s 305 c) + k) - 1 ≠ c; omega⟩
              have := ih (k + 1, -7) ⟨⟨by show 0 ≤ k + 1; omega, by show k + 1 ≤ s 305 c; omega⟩, hl', Or.inr ⟨rfl, hyes⟩⟩ (by show s 305 c - (k + 1) < s 305 c - k; omega)
              simp only [← Int.add_assoc] at this
              exact this
        · rw [if_neg h3, why_ln ho ⟨_, by omega, by omega, h3⟩]
      · have e : k = s 305 c := by omega
        subst e
        simp (disch := omega) only [↓gR_D0, ↓gR_D1, ↓gR_D2, ↓gR_D3, ↓gR_D4, ↓gR_D5, ↓gR_D6, ↓gR_D7, ↓gR_D8, ↓gR_D9, ↓gR_D10, ↓gI_D11, ↓pV_D11, ↓isO_D, ↓gI_T0, ↓pV_T0, ↓gR_T1, ↓isO_T, ↓rd_T2, ↓wr_T2, ↓gI_U0, ↓pV_U0, ↓gR_U1, ↓isO_U, ↓rd_U2, ↓wr_U2, ↓gI_Ps0, ↓pV_Ps0, ↓gI_Ps1, ↓pV_Ps1, ↓gI_Ps2, ↓pV_Ps2, ↓gI_Ps3, ↓pV_Ps3, ↓gI_Ps4, ↓pV_Ps4, ↓isO_Ps, ↓gI_N0, ↓pV_N0, ↓gI_N1, ↓pV_N1, ↓gI_N2, ↓pV_N2, ↓gI_N3, ↓pV_N3, ↓gR_N4, ↓gR_N5, ↓isO_N, ↓rd_NL, ↓gI_NB0, ↓pV_NB0, ↓gR_NB1, ↓gR_NB2, ↓isO_NB, ↓rd_NC, ↓wr_NC, ↓ln_NC, ↓rd_NP, ↓wr_NP, ↓ln_NP, ↓gI_V0, ↓pV_V0, ↓gI_V1, ↓pV_V1, ↓gI_V2, ↓pV_V2, ↓gI_V3, ↓pV_V3, ↓gR_V4, ↓gR_V5, ↓isO_V, ↓rd_VL, ↓gI_VB0, ↓pV_VB0, ↓gR_VB1, ↓gR_VB2, ↓isO_VB, ↓rd_VC, ↓wr_VC, ↓ln_VC, ↓rd_VP, ↓wr_VP, ↓ln_VP, ↓rd_SL, ↓rd_KP, ↓wr_KP, ↓gI_H0, ↓pV_H0, ↓gI_H1, ↓pV_H1, ↓gR_H2, ↓isO_H, ↓rd_HP, ↓gI_B0, ↓pV_B0, ↓gI_B1, ↓pV_B1, ↓gR_B2, ↓gR_B3, ↓gR_B4, ↓gR_B5, ↓gR_B6, ↓gR_B7, ↓gR_B8, ↓isO_B, ↓rd_B301, ↓wr_B301, ↓ln_B301, ↓rd_B302, ↓wr_B302, ↓ln_B302, ↓rd_B303, ↓wr_B303, ↓ln_B303, ↓rd_B304, ↓wr_B304, ↓ln_B304, ↓rd_B305, ↓wr_B305, ↓ln_B305, ↓rd_B306, ↓wr_B306, ↓ln_B306, ↓rd_B307, ↓wr_B307, ↓ln_B307, ↓gR_Tv, ↓isO_Tv, ↓rd_Tv9, ↓wr_Tv9, ↓ln_Tv9, pV_D11, pV_T0, rd_T2, wr_T2, pV_U0, rd_U2, wr_U2, pV_Ps0, pV_Ps1, pV_Ps2, pV_Ps3, pV_Ps4, pV_N0, pV_N1, pV_N2, pV_N3, rd_NL, pV_NB0, rd_NC, wr_NC, rd_NP, wr_NP, pV_V0, pV_V1, pV_V2, pV_V3, rd_VL, pV_VB0, rd_VC, wr_VC, rd_VP, wr_VP, rd_SL, rd_KP, wr_KP, pV_H0, pV_H1, rd_HP, pV_B0, pV_B1, rd_B301, wr_B301, rd_B302, wr_B302, rd_B303, wr_B303, rd_B304, wr_B304, rd_B305, wr_B305, rd_B306, wr_B306, rd_B307, wr_B307, rd_Tv9, wr_Tv9, J_l, J_neg, J_add, J_sub, J_mul, J_lt, J_le, J_eq, J_div2, J_rem2, J_shl1, J_orp, J_or, J_and, J_shr, J_ushr, J_max, J_min, J_abs, J_b0, ↓b0_ite, ↓b0_ite2, b0_ite, bI_r, bV_r, b01_ite, rZ_b, K_l, J_long, M_in, if_neg]
        rcases hb with ⟨x1, x2⟩ | ⟨x1, x2⟩
        · rw [x1, why_0 ho hl x2]
        · rw [x1, why_lb ho hl x2]) (0, 0) ⟨⟨by show (0 : Int) ≤ 0; omega, by show 0 ≤ s 305 c; omega⟩, fun ⟨i, i1, i2, _⟩ => by change i < fr c p (s 305 c) + 0 at i2; omega, Or.inl ⟨rfl, fun ⟨i, i1, i2, _⟩ => by change i < fr c p (s 305 c) + 0 at i2; omega⟩⟩ (by show s 305 c - 0 < 20000; omega)
    simp only [Int.add_zero] at key
    exact key
theorem C_firstFit (hc : 0 ≤ c ∧ c < 1600) (hI : RsI s) (hL : 1 ≤ s 305 c) : qB_firstFit (z + 300) (J c) (hi z TD g w s) = rI (J (ff (whyC s c))) (hi z TD g w s) := by
  refine loopI (S := Int) (fun N p => qB_firstFit_2 N (z + 300) (J c) (J p) (hi z TD g w s)) (fun X => X = rI (J (ff (whyC s c))) (hi z TD g w s)) (fun p => (0 ≤ p ∧ p ≤ 8) ∧ ffN (whyC s c) (8 - p).toNat = ff (whyC s c)) (fun p => 8 - p) (by intro r hr; omega) (fun N p hq ih => ?_) 0 ⟨⟨by omega, by omega⟩, rfl⟩ (by omega)
  obtain ⟨⟨hp, hp2⟩, hR⟩ := hq
  show qB_firstFit_2_b (qB_firstFit_2 N) (z + 300) (J c) (J p) (hi z TD g w s) = _
  unfold qB_firstFit_2_b
  by_cases h8 : p < 8
  · have x1 := C_reason (z := z) (g := g) (w := w) (p := p) hc ⟨hp, h8⟩ hI hL
    have xv := why_val (lo := s 301) (lg := s 305) (lb := fun i => s 306 i - 1) (wd := s 300 0) (hg := s 300 1) (c := c) (p := p)
    change whyC s c p = -5 ∨ whyC s c p = -6 ∨ whyC s c p = -7 ∨ whyC s c p = 0 at xv
    rw [ffN_s ⟨hp, h8⟩] at hR
    simp (disch := omega) only [↓gR_D0, ↓gR_D1, ↓gR_D2, ↓gR_D3, ↓gR_D4, ↓gR_D5, ↓gR_D6, ↓gR_D7, ↓gR_D8, ↓gR_D9, ↓gR_D10, ↓gI_D11, ↓pV_D11, ↓isO_D, ↓gI_T0, ↓pV_T0, ↓gR_T1, ↓isO_T, ↓rd_T2, ↓wr_T2, ↓gI_U0, ↓pV_U0, ↓gR_U1, ↓isO_U, ↓rd_U2, ↓wr_U2, ↓gI_Ps0, ↓pV_Ps0, ↓gI_Ps1, ↓pV_Ps1, ↓gI_Ps2, ↓pV_Ps2, ↓gI_Ps3, ↓pV_Ps3, ↓gI_Ps4, ↓pV_Ps4, ↓isO_Ps, ↓gI_N0, ↓pV_N0, ↓gI_N1, ↓pV_N1, ↓gI_N2, ↓pV_N2, ↓gI_N3, ↓pV_N3, ↓gR_N4, ↓gR_N5, ↓isO_N, ↓rd_NL, ↓gI_NB0, ↓pV_NB0, ↓gR_NB1, ↓gR_NB2, ↓isO_NB, ↓rd_NC, ↓wr_NC, ↓ln_NC, ↓rd_NP, ↓wr_NP, ↓ln_NP, ↓gI_V0, ↓pV_V0, ↓gI_V1, ↓pV_V1, ↓gI_V2, ↓pV_V2, ↓gI_V3, ↓pV_V3, ↓gR_V4, ↓gR_V5, ↓isO_V, ↓rd_VL, ↓gI_VB0, ↓pV_VB0, ↓gR_VB1, ↓gR_VB2, ↓isO_VB, ↓rd_VC, ↓wr_VC, ↓ln_VC, ↓rd_VP, ↓wr_VP, ↓ln_VP, ↓rd_SL, ↓rd_KP, ↓wr_KP, ↓gI_H0, ↓pV_H0, ↓gI_H1, ↓pV_H1, ↓gR_H2, ↓isO_H, ↓rd_HP, ↓gI_B0, ↓pV_B0, ↓gI_B1, ↓pV_B1, ↓gR_B2, ↓gR_B3, ↓gR_B4, ↓gR_B5, ↓gR_B6, ↓gR_B7, ↓gR_B8, ↓isO_B, ↓rd_B301, ↓wr_B301, ↓ln_B301, ↓rd_B302, ↓wr_B302, ↓ln_B302, ↓rd_B303, ↓wr_B303, ↓ln_B303, ↓rd_B304, ↓wr_B304, ↓ln_B304, ↓rd_B305, ↓wr_B305, ↓ln_B305, ↓rd_B306, ↓wr_B306, ↓ln_B306, ↓rd_B307, ↓wr_B307, ↓ln_B307, ↓gR_Tv, ↓isO_Tv, ↓rd_Tv9, ↓wr_Tv9, ↓ln_Tv9, pV_D11, pV_T0, rd_T2, wr_T2, pV_U0, rd_U2, wr_U2, pV_Ps0, pV_Ps1, pV_Ps2, pV_Ps3, pV_Ps4, pV_N0, pV_N1, pV_N2, pV_N3, rd_NL, pV_NB0, rd_NC, wr_NC, rd_NP, wr_NP, pV_V0, pV_V1, pV_V2, pV_V3, rd_VL, pV_VB0, rd_VC, wr_VC, rd_VP, wr_VP, rd_SL, rd_KP, wr_KP, pV_H0, pV_H1, rd_HP, pV_B0, pV_B1, rd_B301, wr_B301, rd_B302, wr_B302, rd_B303, wr_B303, rd_B304, wr_B304, rd_B305, wr_B305, rd_B306, wr_B306, rd_B307, wr_B307, rd_Tv9, wr_Tv9, J_l, J_neg, J_add, J_sub, J_mul, J_lt, J_le, J_eq, J_div2, J_rem2, J_shl1, J_orp, J_or, J_and, J_shr, J_ushr, J_max, J_min, J_abs, J_b0, ↓b0_ite, ↓b0_ite2, b0_ite, bI_r, bV_r, b01_ite, rZ_b, K_l, J_long, M_in, if_pos, x1]
    by_cases h0 : whyC s c p = 0
    · rw [if_pos h0] at hR
      rw [if_pos h0, ← hR]
    · rw [if_neg h0] at hR
      rw [if_neg h0]
      exact ih (p + 1) ⟨⟨by omega, by omega⟩, hR⟩ (by omega)
  · rw [show p = 8 by omega] at hR ⊢
    simp (disch := omega) only [J_l, J_neg, J_add, J_sub, J_mul, J_lt, J_le, J_eq, J_div2, J_rem2, J_shl1, J_orp, J_or, J_and, J_shr, J_ushr, J_max, J_min, J_abs, J_b0, ↓b0_ite, ↓b0_ite2, b0_ite, bI_r, bV_r, b01_ite, rZ_b, K_l, J_long, M_in, if_neg]
    rw [← hR]
    rfl
theorem C_paint (hc : 0 ≤ c ∧ c < 1600) (hp : 0 ≤ p ∧ p < 8) (hI : RsI s) (hL : 1 ≤ s 305 c) (ho : ¬offP (s 300 0) (s 300 1) c p (s 305 c)) : qB_paint (z + 300) (J c) (J p) (J v) (hi z TD g w s) = rV (hi z TD g w (rs s 306 (pnt (s 306) (fr c p (s 305 c)) (s 305 c) v))) := by
  have hbeg := C_beginOf (z := z) (g := g) (w := w) hc hp hI hL
  obtain ⟨hw, hh, hx⟩ := hI
  have hL2 := (hx c hc.1 hc.2).2.1
  have hf := fr_in (i := fr c p (s 305 c)) hc hw hh ho (by omega) (by omega)
  unfold qB_paint
  simp (disch := omega) only [↓gR_D0, ↓gR_D1, ↓gR_D2, ↓gR_D3, ↓gR_D4, ↓gR_D5, ↓gR_D6, ↓gR_D7, ↓gR_D8, ↓gR_D9, ↓gR_D10, ↓gI_D11, ↓pV_D11, ↓isO_D, ↓gI_T0, ↓pV_T0, ↓gR_T1, ↓isO_T, ↓rd_T2, ↓wr_T2, ↓gI_U0, ↓pV_U0, ↓gR_U1, ↓isO_U, ↓rd_U2, ↓wr_U2, ↓gI_Ps0, ↓pV_Ps0, ↓gI_Ps1, ↓pV_Ps1, ↓gI_Ps2, ↓pV_Ps2, ↓gI_Ps3, ↓pV_Ps3, ↓gI_Ps4, ↓pV_Ps4, ↓isO_Ps, ↓gI_N0, ↓pV_N0, ↓gI_N1, ↓pV_N1, ↓gI_N2, ↓pV_N2, ↓gI_N3, ↓pV_N3, ↓gR_N4, ↓gR_N5, ↓isO_N, ↓rd_NL, ↓gI_NB0, ↓pV_NB0, ↓gR_NB1, ↓gR_NB2, ↓isO_NB, ↓rd_NC, ↓wr_NC, ↓ln_NC, ↓rd_NP, ↓wr_NP, ↓ln_NP, ↓gI_V0, ↓pV_V0, ↓gI_V1, ↓pV_V1, ↓gI_V2, ↓pV_V2, ↓gI_V3, ↓pV_V3, ↓gR_V4, ↓gR_V5, ↓isO_V, ↓rd_VL, ↓gI_VB0, ↓pV_VB0, ↓gR_VB1, ↓gR_VB2, ↓isO_VB, ↓rd_VC, ↓wr_VC, ↓ln_VC, ↓rd_VP, ↓wr_VP, ↓ln_VP, ↓rd_SL, ↓rd_KP, ↓wr_KP, ↓gI_H0, ↓pV_H0, ↓gI_H1, ↓pV_H1, ↓gR_H2, ↓isO_H, ↓rd_HP, ↓gI_B0, ↓pV_B0, ↓gI_B1, ↓pV_B1, ↓gR_B2, ↓gR_B3, ↓gR_B4, ↓gR_B5, ↓gR_B6, ↓gR_B7, ↓gR_B8, ↓isO_B, ↓rd_B301, ↓wr_B301, ↓ln_B301, ↓rd_B302, ↓wr_B302, ↓ln_B302, ↓rd_B303, ↓wr_B303, ↓ln_B303, ↓rd_B304, ↓wr_B304, ↓ln_B304, ↓rd_B305, ↓wr_B305, ↓ln_B305, ↓rd_B306, ↓wr_B306, ↓ln_B306, ↓rd_B307, ↓wr_B307, ↓ln_B307, ↓gR_Tv, ↓isO_Tv, ↓rd_Tv9, ↓wr_Tv9, ↓ln_Tv9, pV_D11, pV_T0, rd_T2, wr_T2, pV_U0, rd_U2, wr_U2, pV_Ps0, pV_Ps1, pV_Ps2, pV_Ps3, pV_Ps4, pV_N0, pV_N1, pV_N2, pV_N3, rd_NL, pV_NB0, rd_NC, wr_NC, rd_NP, wr_NP, pV_V0, pV_V1, pV_V2, pV_V3, rd_VL, pV_VB0, rd_VC, wr_VC, rd_VP, wr_VP, rd_SL, rd_KP, wr_KP, pV_H0, pV_H1, rd_HP, pV_B0, pV_B1, rd_B301, wr_B301, rd_B302, wr_B302, rd_B303, wr_B303, rd_B304, wr_B304, rd_B305, wr_B305, rd_B306, wr_B306, rd_B307, wr_B307, rd_Tv9, wr_Tv9, J_l, J_neg, J_add, J_sub, J_mul, J_lt, J_le, J_eq, J_div2, J_rem2, J_shl1, J_orp, J_or, J_and, J_shr, J_ushr, J_max, J_min, J_abs, J_b0, ↓b0_ite, ↓b0_ite2, b0_ite, bI_r, bV_r, b01_ite, rZ_b, K_l, J_long, M_in, hbeg]
  rw [if_neg ho]
  simp (disch := omega) only [J_l, J_neg, J_add, J_sub, J_mul, J_lt, J_le, J_eq, J_div2, J_rem2, J_shl1, J_orp, J_or, J_and, J_shr, J_ushr, J_max, J_min, J_abs, J_b0, ↓b0_ite, ↓b0_ite2, b0_ite, bI_r, bV_r, b01_ite, rZ_b, K_l, J_long, M_in, if_neg]
  have key := loopI (S := Int) (fun N k => qB_paint_18 N (z + 300) (J c) (J v) (J (fr c p (s 305 c))) (J (fr c p (s 305 c) + k)) (hi z TD g w (rs s 306 (pnt (s 306) (fr c p (s 305 c)) k v)))) (fun X => X = rV (hi z TD g w (rs s 306 (pnt (s 306) (fr c p (s 305 c)) (s 305 c) v)))) (fun k => 0 ≤ k ∧ k ≤ s 305 c) (fun k => s 305 c - k) (by intro r hr; omega) (fun N k hk ih => by
    show qB_paint_18_b (qB_paint_18 N) (z + 300) (J c) (J v) (J (fr c p (s 305 c))) (J (fr c p (s 305 c) + k)) (hi z TD g w (rs s 306 (pnt (s 306) (fr c p (s 305 c)) k v))) = _
    unfold qB_paint_18_b
    have e14 : rs s 306 (pnt (s 306) (fr c p (s 305 c)) k v) 305 = s 305 := rs_ne (by decide)
    by_cases hc2 : k < s 305 c
    · have hi2 := fr_in (i := fr c p (s 305 c) + k) hc hw hh ho (by omega) (by omega)
      simp (disch := omega) only [↓gR_D0, ↓gR_D1, ↓gR_D2, ↓gR_D3, ↓gR_D4, ↓gR_D5, ↓gR_D6, ↓gR_D7, ↓gR_D8, ↓gR_D9, ↓gR_D10, ↓gI_D11, ↓pV_D11, ↓isO_D, ↓gI_T0, ↓pV_T0, ↓gR_T1, ↓isO_T, ↓rd_T2, ↓wr_T2, ↓gI_U0, ↓pV_U0, ↓gR_U1, ↓isO_U, ↓rd_U2, ↓wr_U2, ↓gI_Ps0, ↓pV_Ps0, ↓gI_Ps1, ↓pV_Ps1, ↓gI_Ps2, ↓pV_Ps2, ↓gI_Ps3, ↓pV_Ps3, ↓gI_Ps4, ↓pV_Ps4, ↓isO_Ps, ↓gI_N0, ↓pV_N0, ↓gI_N1, ↓pV_N1, ↓gI_N2, ↓pV_N2, ↓gI_N3, ↓pV_N3, ↓gR_N4, ↓gR_N5, ↓isO_N, ↓rd_NL, ↓gI_NB0, ↓pV_NB0, ↓gR_NB1, ↓gR_NB2, ↓isO_NB, ↓rd_NC, ↓wr_NC, ↓ln_NC, ↓rd_NP, ↓wr_NP, ↓ln_NP, ↓gI_V0, ↓pV_V0, ↓gI_V1, ↓pV_V1, ↓gI_V2, ↓pV_V2, ↓gI_V3, ↓pV_V3, ↓gR_V4, ↓gR_V5, ↓isO_V, ↓rd_VL, ↓gI_VB0, ↓pV_VB0, ↓gR_VB1, ↓gR_VB2, ↓isO_VB, ↓rd_VC, ↓wr_VC, ↓ln_VC, ↓rd_VP, ↓wr_VP, ↓ln_VP, ↓rd_SL, ↓rd_KP, ↓wr_KP, ↓gI_H0, ↓pV_H0, ↓gI_H1, ↓pV_H1, ↓gR_H2, ↓isO_H, ↓rd_HP, ↓gI_B0, ↓pV_B0, ↓gI_B1, ↓pV_B1, ↓gR_B2, ↓gR_B3, ↓gR_B4, ↓gR_B5, ↓gR_B6, ↓gR_B7, ↓gR_B8, ↓isO_B, ↓rd_B301, ↓wr_B301, ↓ln_B301, ↓rd_B302, ↓wr_B302, ↓ln_B302, ↓rd_B303, ↓wr_B303, ↓ln_B303, ↓rd_B304, ↓wr_B304, ↓ln_B304, ↓rd_B305, ↓wr_B305, ↓ln_B305, ↓rd_B306, ↓wr_B306, ↓ln_B306, ↓rd_B307, ↓wr_B307, ↓ln_B307, ↓gR_Tv, ↓isO_Tv, ↓rd_Tv9, ↓wr_Tv9, ↓ln_Tv9, pV_D11, pV_T0, rd_T2, wr_T2, pV_U0, rd_U2, wr_U2, pV_Ps0, pV_Ps1, pV_Ps2, pV_Ps3, pV_Ps4, pV_N0, pV_N1, pV_N2, pV_N3, rd_NL, pV_NB0, rd_NC, wr_NC, rd_NP, wr_NP, pV_V0, pV_V1, pV_V2, pV_V3, rd_VL, pV_VB0, rd_VC, wr_VC, rd_VP, wr_VP, rd_SL, rd_KP, wr_KP, pV_H0, pV_H1, rd_HP, pV_B0, pV_B1, rd_B301, wr_B301, rd_B302, wr_B302, rd_B303, wr_B303, rd_B304, wr_B304, rd_B305, wr_B305, rd_B306, wr_B306, rd_B307, wr_B307, rd_Tv9, wr_Tv9, J_l, J_neg, J_add, J_sub, J_mul, J_lt, J_le, J_eq, J_div2, J_rem2, J_shl1, J_orp, J_or, J_and, J_shr, J_ushr, J_max, J_min, J_abs, J_b0, ↓b0_ite, ↓b0_ite2, b0_ite, bI_r, bV_r, b01_ite, rZ_b, K_l, J_long, M_in, e14, if_pos, rs_same, rs_rs]
      rw [pnt_s hk.1]
      have := ih (k + 1) (by omega) (by omega)
      simp only [← Int.add_assoc] at this
      exact this
    · have e : k = s 305 c := by omega
      subst e
      simp (disch := omega) only [↓gR_D0, ↓gR_D1, ↓gR_D2, ↓gR_D3, ↓gR_D4, ↓gR_D5, ↓gR_D6, ↓gR_D7, ↓gR_D8, ↓gR_D9, ↓gR_D10, ↓gI_D11, ↓pV_D11, ↓isO_D, ↓gI_T0, ↓pV_T0, ↓gR_T1, ↓isO_T, ↓rd_T2, ↓wr_T2, ↓gI_U0, ↓pV_U0, ↓gR_U1, ↓isO_U, ↓rd_U2, ↓wr_U2, ↓gI_Ps0, ↓pV_Ps0, ↓gI_Ps1, ↓pV_Ps1, ↓gI_Ps2, ↓pV_Ps2, ↓gI_Ps3, ↓pV_Ps3, ↓gI_Ps4, ↓pV_Ps4, ↓isO_Ps, ↓gI_N0, ↓pV_N0, ↓gI_N1, ↓pV_N1, ↓gI_N2, ↓pV_N2, ↓gI_N3, ↓pV_N3, ↓gR_N4, ↓gR_N5, ↓isO_N, ↓rd_NL, ↓gI_NB0, ↓pV_NB0, ↓gR_NB1, ↓gR_NB2, ↓isO_NB, ↓rd_NC, ↓wr_NC, ↓ln_NC, ↓rd_NP, ↓wr_NP, ↓ln_NP, ↓gI_V0, ↓pV_V0, ↓gI_V1, ↓pV_V1, ↓gI_V2, ↓pV_V2, ↓gI_V3, ↓pV_V3, ↓gR_V4, ↓gR_V5, ↓isO_V, ↓rd_VL, ↓gI_VB0, ↓pV_VB0, ↓gR_VB1, ↓gR_VB2, ↓isO_VB, ↓rd_VC, ↓wr_VC, ↓ln_VC, ↓rd_VP, ↓wr_VP, ↓ln_VP, ↓rd_SL, ↓rd_KP, ↓wr_KP, ↓gI_H0, ↓pV_H0, ↓gI_H1, ↓pV_H1, ↓gR_H2, ↓isO_H, ↓rd_HP, ↓gI_B0, ↓pV_B0, ↓gI_B1, ↓pV_B1, ↓gR_B2, ↓gR_B3, ↓gR_B4, ↓gR_B5, ↓gR_B6, ↓gR_B7, ↓gR_B8, ↓isO_B, ↓rd_B301, ↓wr_B301, ↓ln_B301, ↓rd_B302, ↓wr_B302, ↓ln_B302, ↓rd_B303, ↓wr_B303, ↓ln_B303, ↓rd_B304, ↓wr_B304, ↓ln_B304, ↓rd_B305, ↓wr_B305, ↓ln_B305, ↓rd_B306, ↓wr_B306, ↓ln_B306, ↓rd_B307, ↓wr_B307, ↓ln_B307, ↓gR_Tv, ↓isO_Tv, ↓rd_Tv9, ↓wr_Tv9, ↓ln_Tv9, pV_D11, pV_T0, rd_T2, wr_T2, pV_U0, rd_U2, wr_U2, pV_Ps0, pV_Ps1, pV_Ps2, pV_Ps3, pV_Ps4, pV_N0, pV_N1, pV_N2, pV_N3, rd_NL, pV_NB0, rd_NC, wr_NC, rd_NP, wr_NP, pV_V0, pV_V1, pV_V2, pV_V3, rd_VL, pV_VB0, rd_VC, wr_VC, rd_VP, wr_VP, rd_SL, rd_KP, wr_KP, pV_H0, pV_H1, rd_HP, pV_B0, pV_B1, rd_B301, wr_B301, rd_B302, wr_B302, rd_B303, wr_B303, rd_B304, wr_B304, rd_B305, wr_B305, rd_B306, wr_B306, rd_B307, wr_B307, rd_Tv9, wr_Tv9, J_l, J_neg, J_add, J_sub, J_mul, J_lt, J_le, J_eq, J_div2, J_rem2, J_shl1, J_orp, J_or, J_and, J_shr, J_ushr, J_max, J_min, J_abs, J_b0, ↓b0_ite, ↓b0_ite2, b0_ite, bI_r, bV_r, b01_ite, rZ_b, K_l, J_long, M_in, e14, if_neg]) 0 (by omega) (by omega)
  rw [pnt_0, rs_self, Int.add_zero] at key
  exact key
/-- the only label under a label -/
def onlyR (lb : Int → Int) (f k r : Int) : Prop := (0 ≤ r ∧ r < 1600 ∧ (∃ i, f ≤ i ∧ i < f + k ∧ lb i = r) ∧ ∀ i, f ≤ i → i < f + k → 0 ≤ lb i → lb i = r) ∨ (r = -2 ∧ ∃ i j, (f ≤ i ∧ i < f + k) ∧ (f ≤ j ∧ j < f + k) ∧ 0 ≤ lb i ∧ 0 ≤ lb j ∧ lb i ≠ lb j)
theorem C_onlyLabelUnder (hc : 0 ≤ c ∧ c < 1600) (hp : 0 ≤ p ∧ p < 8) (hI : RsI s) (hL : 1 ≤ s 305 c) : ∃ r, qB_onlyLabelUnder (z + 300) (J c) (J p) (hi z TD g w s) = rI (J r) (hi z TD g w s) ∧ ((whyC s c p ≠ -7 ∧ r = -2) ∨ (whyC s c p = -7 ∧ onlyR (fun i => s 306 i - 1) (fr c p (s 305 c)) (s 305 c) r)) := by
  have hbeg := C_beginOf (z := z) (g := g) (w := w) hc hp hI hL
  have x1 := C_reason (z := z) (g := g) (w := w) (p := p) hc hp hI hL
  have xv := why_val (lo := s 301) (lg := s 305) (lb := fun i => s 306 i - 1) (wd := s 300 0) (hg := s 300 1) (c := c) (p := p)
  change whyC s c p = -5 ∨ whyC s c p = -6 ∨ whyC s c p = -7 ∨ whyC s c p = 0 at xv
  obtain ⟨hw, hh, hx⟩ := hI
  have hL2 := (hx c hc.1 hc.2).2.1
  unfold qB_onlyLabelUnder
  simp (disch := omega) only [↓gR_D0, ↓gR_D1, ↓gR_D2, ↓gR_D3, ↓gR_D4, ↓gR_D5, ↓gR_D6, ↓gR_D7, ↓gR_D8, ↓gR_D9, ↓gR_D10, ↓gI_D11, ↓pV_D11, ↓isO_D, ↓gI_T0, ↓pV_T0, ↓gR_T1, ↓isO_T, ↓rd_T2, ↓wr_T2, ↓gI_U0, ↓pV_U0, ↓gR_U1, ↓isO_U, ↓rd_U2, ↓wr_U2, ↓gI_Ps0, ↓pV_Ps0, ↓gI_Ps1, ↓pV_Ps1, ↓gI_Ps2, ↓pV_Ps2, ↓gI_Ps3, ↓pV_Ps3, ↓gI_Ps4, ↓pV_Ps4, ↓isO_Ps, ↓gI_N0, ↓pV_N0, ↓gI_N1, ↓pV_N1, ↓gI_N2, ↓pV_N2, ↓gI_N3, ↓pV_N3, ↓gR_N4, ↓gR_N5, ↓isO_N, ↓rd_NL, ↓gI_NB0, ↓pV_NB0, ↓gR_NB1, ↓gR_NB2, ↓isO_NB, ↓rd_NC, ↓wr_NC, ↓ln_NC, ↓rd_NP, ↓wr_NP, ↓ln_NP, ↓gI_V0, ↓pV_V0, ↓gI_V1, ↓pV_V1, ↓gI_V2, ↓pV_V2, ↓gI_V3, ↓pV_V3, ↓gR_V4, ↓gR_V5, ↓isO_V, ↓rd_VL, ↓gI_VB0, ↓pV_VB0, ↓gR_VB1, ↓gR_VB2, ↓isO_VB, ↓rd_VC, ↓wr_VC, ↓ln_VC, ↓rd_VP, ↓wr_VP, ↓ln_VP, ↓rd_SL, ↓rd_KP, ↓wr_KP, ↓gI_H0, ↓pV_H0, ↓gI_H1, ↓pV_H1, ↓gR_H2, ↓isO_H, ↓rd_HP, ↓gI_B0, ↓pV_B0, ↓gI_B1, ↓pV_B1, ↓gR_B2, ↓gR_B3, ↓gR_B4, ↓gR_B5, ↓gR_B6, ↓gR_B7, ↓gR_B8, ↓isO_B, ↓rd_B301, ↓wr_B301, ↓ln_B301, ↓rd_B302, ↓wr_B302, ↓ln_B302, ↓rd_B303, ↓wr_B303, ↓ln_B303, ↓rd_B304, ↓wr_B304, ↓ln_B304, ↓rd_B305, ↓wr_B305, ↓ln_B305, ↓rd_B306, ↓wr_B306, ↓ln_B306, ↓rd_B307, ↓wr_B307, ↓ln_B307, ↓gR_Tv, ↓isO_Tv, ↓rd_Tv9, ↓wr_Tv9, ↓ln_Tv9, pV_D11, pV_T0, rd_T2, wr_T2, pV_U0, rd_U2, wr_U2, pV_Ps0, pV_Ps1, pV_Ps2, pV_Ps3, pV_Ps4, pV_N0, pV_N1, pV_N2, pV_N3, rd_NL, pV_NB0, rd_NC, wr_NC, rd_NP, wr_NP, pV_V0, pV_V1, pV_V2, pV_V3, rd_VL, pV_VB0, rd_VC, wr_VC, rd_VP, wr_VP, rd_SL, rd_KP, wr_KP, pV_H0, pV_H1, rd_HP, pV_B0, pV_B1, rd_B301, wr_B301, rd_B302, wr_B302, rd_B303, wr_B303, rd_B304, wr_B304, rd_B305, wr_B305, rd_B306, wr_B306, rd_B307, wr_B307, rd_Tv9, wr_Tv9, J_l, J_neg, J_add, J_sub, J_mul, J_lt, J_le, J_eq, J_div2, J_rem2, J_shl1, J_orp, J_or, J_and, J_shr, J_ushr, J_max, J_min, J_abs, J_b0, ↓b0_ite, ↓b0_ite2, b0_ite, bI_r, bV_r, b01_ite, rZ_b, K_l, J_long, M_in, hbeg]
  by_cases ho : offP (s 300 0) (s 300 1) c p (s 305 c)
  · rw [if_pos ho]
    have e5 : whyC s c p = -5 := why_off ho
    simp (disch := omega) only [J_l, J_neg, J_add, J_sub, J_mul, J_lt, J_le, J_eq, J_div2, J_rem2, J_shl1, J_orp, J_or, J_and, J_shr, J_ushr, J_max, J_min, J_abs, J_b0, ↓b0_ite, ↓b0_ite2, b0_ite, bI_r, bV_r, b01_ite, rZ_b, K_l, J_long, M_in, if_pos]
    exact ⟨-2, rfl, Or.inl ⟨by omega, rfl⟩⟩
  · rw [if_neg ho]
    have hf := fr_in (i := fr c p (s 305 c)) hc hw hh ho (by omega) (by omega)
    simp (disch := omega) only [↓gR_D0, ↓gR_D1, ↓gR_D2, ↓gR_D3, ↓gR_D4, ↓gR_D5, ↓gR_D6, ↓gR_D7, ↓gR_D8, ↓gR_D9, ↓gR_D10, ↓gI_D11, ↓pV_D11, ↓isO_D, ↓gI_T0, ↓pV_T0, ↓gR_T1, ↓isO_T, ↓rd_T2, ↓wr_T2, ↓gI_U0, ↓pV_U0, ↓gR_U1, ↓isO_U, ↓rd_U2, ↓wr_U2, ↓gI_Ps0, ↓pV_Ps0, ↓gI_Ps1, ↓pV_Ps1, ↓gI_Ps2, ↓pV_Ps2, ↓gI_Ps3, ↓pV_Ps3, ↓gI_Ps4, ↓pV_Ps4, ↓isO_Ps, ↓gI_N0, ↓pV_N0, ↓gI_N1, ↓pV_N1, ↓gI_N2, ↓pV_N2, ↓gI_N3, ↓pV_N3, ↓gR_N4, ↓gR_N5, ↓isO_N, ↓rd_NL, ↓gI_NB0, ↓pV_NB0, ↓gR_NB1, ↓gR_NB2, ↓isO_NB, ↓rd_NC, ↓wr_NC, ↓ln_NC, ↓rd_NP, ↓wr_NP, ↓ln_NP, ↓gI_V0, ↓pV_V0, ↓gI_V1, ↓pV_V1, ↓gI_V2, ↓pV_V2, ↓gI_V3, ↓pV_V3, ↓gR_V4, ↓gR_V5, ↓isO_V, ↓rd_VL, ↓gI_VB0, ↓pV_VB0, ↓gR_VB1, ↓gR_VB2, ↓isO_VB, ↓rd_VC, ↓wr_VC, ↓ln_VC, ↓rd_VP, ↓wr_VP, ↓ln_VP, ↓rd_SL, ↓rd_KP, ↓wr_KP, ↓gI_H0, ↓pV_H0, ↓gI_H1, ↓pV_H1, ↓gR_H2, ↓isO_H, ↓rd_HP, ↓gI_B0, ↓pV_B0, ↓gI_B1, ↓pV_B1, ↓gR_B2, ↓gR_B3, ↓gR_B4, ↓gR_B5, ↓gR_B6, ↓gR_B7, ↓gR_B8, ↓isO_B, ↓rd_B301, ↓wr_B301, ↓ln_B301, ↓rd_B302, ↓wr_B302, ↓ln_B302, ↓rd_B303, ↓wr_B303, ↓ln_B303, ↓rd_B304, ↓wr_B304, ↓ln_B304, ↓rd_B305, ↓wr_B305, ↓ln_B305, ↓rd_B306, ↓wr_B306, ↓ln_B306, ↓rd_B307, ↓wr_B307, ↓ln_B307, ↓gR_Tv, ↓isO_Tv, ↓rd_Tv9, ↓wr_Tv9, ↓ln_Tv9, pV_D11, pV_T0, rd_T2, wr_T2, pV_U0, rd_U2, wr_U2, pV_Ps0, pV_Ps1, pV_Ps2, pV_Ps3, pV_Ps4, pV_N0, pV_N1, pV_N2, pV_N3, rd_NL, pV_NB0, rd_NC, wr_NC, rd_NP, wr_NP, pV_V0, pV_V1, pV_V2, pV_V3, rd_VL, pV_VB0, rd_VC, wr_VC, rd_VP, wr_VP, rd_SL, rd_KP, wr_KP, pV_H0, pV_H1, rd_HP, pV_B0, pV_B1, rd_B301, wr_B301, rd_B302, wr_B302, rd_B303, wr_B303, rd_B304, wr_B304, rd_B305, wr_B305, rd_B306, wr_B306, rd_B307, wr_B307, rd_Tv9, wr_Tv9, J_l, J_neg, J_add, J_sub, J_mul, J_lt, J_le, J_eq, J_div2, J_rem2, J_shl1, J_orp, J_or, J_and, J_shr, J_ushr, J_max, J_min, J_abs, J_b0, ↓b0_ite, ↓b0_ite2, b0_ite, bI_r, bV_r, b01_ite, rZ_b, K_l, J_long, M_in, if_neg, x1]
    by_cases h7 : whyC s c p = -7
    · rw [if_pos h7]
      have hlb : onLb (fun i => s 306 i - 1) (fr c p (s 305 c)) (s 305 c) c := by
        by_cases hl : onLn (s 301) (fr c p (s 305 c)) (s 305 c)
        · have : whyC s c p = -6 := why_ln ho hl
          omega
        · by_cases hb : onLb (fun i => s 306 i - 1) (fr c p (s 305 c)) (s 305 c) c
          · exact hb
          · have : whyC s c p = 0 := why_0 ho hl hb
            omega
      have key := loopI (S := Int × Int) (fun N q => qB_onlyLabelUnder_31 N (z + 300) (J c) (J (fr c p (s 305 c))) (J q.2) (J (fr c p (s 305 c) + q.1)) (hi z TD g w s)) (fun X => ∃ r, X = rI (J r) (hi z TD g w s) ∧ onlyR (fun i => s 306 i - 1) (fr c p (s 305 c)) (s 305 c) r) (fun q => (0 ≤ q.1 ∧ q.1 ≤ s 305 c) ∧ (0 ≤ q.2 ∧ q.2 ≤ 1600) ∧ (q.2 = 0 ∨ ∃ i, fr c p (s 305 c) ≤ i ∧ i < fr c p (s 305 c) + q.1 ∧ s 306 i = q.2) ∧ ∀ i, fr c p (s 305 c) ≤ i → i < fr c p (s 305 c) + q.1 → s 306 i = 0 ∨ s 306 i = q.2) (fun q => s 305 c - q.1) (by intro r hr; omega) (fun N q hq ih => by
        obtain ⟨k, a⟩ := q
        obtain ⟨⟨hk, hk2⟩, ha, ha2, ha3⟩ := hq
        change 0 ≤ k at hk
        change k ≤ s 305 c at hk2
        change 0 ≤ a ∧ a ≤ 1600 at ha
        change a = 0 ∨ ∃ i, fr c p (s 305 c) ≤ i ∧ i < fr c p (s 305 c) + k ∧ s 306 i = a at ha2
        change ∀ i, fr c p (s 305 c) ≤ i → i < fr c p (s 305 c) + k → s 306 i = 0 ∨ s 306 i = a at ha3
        show ∃ r, qB_onlyLabelUnder_31_b (qB_onlyLabelUnder_31 N) (z + 300) (J c) (J (fr c p (s 305 c))) (J a) (J (fr c p (s 305 c) + k)) (hi z TD g w s) = _ ∧ _
        unfold qB_onlyLabelUnder_31_b qB_onlyLabelUnder_74
        have hf2 : -1 ≤ fr c p (s 305 c) ∧ fr c p (s 305 c) < 1600 := by omega
        by_cases hc2 : k < s 305 c
        · have hi2 := fr_in (i := fr c p (s 305 c) + k) hc hw hh ho (by omega) (by omega)
          have hv := hx _ hi2.1 hi2.2
          generalize hq : s 306 (fr c p (s 305 c) + k) = q at *
          have hnext : (q = 0 ∨ a = 0 ∨ q = a) → ∃ r, qB_onlyLabelUnder_31 N (z + 300) (J c) (J (fr c p (s 305 c))) (J (max a q)) (J (fr c p (s 305 c) + k + 1)) (hi z TD g w s) = rI (J r) (hi z TD g w s) ∧ onlyR (fun i => s 306 i - 1) (fr c p (s 305 c)) (s 305 c) r := by
            intro hor
            have := ih (k + 1, max a q) ⟨⟨by show 0 ≤ k + 1; omega, by show k + 1 ≤ s 305 c; omega⟩, ⟨by show 0 ≤ max a q; omega, by show max a q ≤ 1600; omega⟩, by
              show max a q = 0 ∨ ∃ i, fr c p (s 305 c) ≤ i ∧ i < fr c p (s 305 c) + (k + 1) ∧ s 306 i = max a q
              by_cases h0 : q = 0
              · rcases ha2 with h1 | ⟨i, i1, i2, i3⟩
                · exact Or.inl (by omega)
                · exact Or.inr ⟨i, i1, by omega, by omega⟩
              · exact Or.inr ⟨fr c p (s 305 c) + k, by omega, by omega, by omega⟩, fun i i1 i2 => by
              change i < fr c p (s 305 c) + (k + 1) at i2
              show s 306 i = 0 ∨ s 306 i = max a q
              by_cases h4 : i < fr c p (s 305 c) + k
              · rcases ha3 i i1 h4 with h5 | h5
                · exact Or.inl h5
                · omega
              · rw [show i = fr c p (s 305 c) + k by omega, hq]
                omega⟩ (by show s 305 c - (k + 1) < s 305 c - k; omega)
            simp only [← Int.add_assoc] at this
            exact this
          simp (disch := omega) only [↓gR_D0, ↓gR_D1, ↓gR_D2, ↓gR_D3, ↓gR_D4, ↓gR_D5, ↓gR_D6, ↓gR_D7, ↓gR_D8, ↓gR_D9, ↓gR_D10, ↓gI_D11, ↓pV_D11, ↓isO_D, ↓gI_T0, ↓pV_T0, ↓gR_T1, ↓isO_T, ↓rd_T2, ↓wr_T2, ↓gI_U0, ↓pV_U0, ↓gR_U1, ↓isO_U, ↓rd_U2, ↓wr_U2, ↓gI_Ps0, ↓pV_Ps0, ↓gI_Ps1, ↓pV_Ps1, ↓gI_Ps2, ↓pV_Ps2, ↓gI_Ps3, ↓pV_Ps3, ↓gI_Ps4, ↓pV_Ps4, ↓isO_Ps, ↓gI_N0, ↓pV_N0, ↓gI_N1, ↓pV_N1, ↓gI_N2, ↓pV_N2, ↓gI_N3, ↓pV_N3, ↓gR_N4, ↓gR_N5, ↓isO_N, ↓rd_NL, ↓gI_NB0, ↓pV_NB0, ↓gR_NB1, ↓gR_NB2, ↓isO_NB, ↓rd_NC, ↓wr_NC, ↓ln_NC, ↓rd_NP, ↓wr_NP, ↓ln_NP, ↓gI_V0, ↓pV_V0, ↓gI_V1, ↓pV_V1, ↓gI_V2, ↓pV_V2, ↓gI_V3, ↓pV_V3, ↓gR_V4, ↓gR_V5, ↓isO_V, ↓rd_VL, ↓gI_VB0, ↓pV_VB0, ↓gR_VB1, ↓gR_VB2, ↓isO_VB, ↓rd_VC, ↓wr_VC, ↓ln_VC, ↓rd_VP, ↓wr_VP, ↓ln_VP, ↓rd_SL, ↓rd_KP, ↓wr_KP, ↓gI_H0, ↓pV_H0, ↓gI_H1, ↓pV_H1, ↓gR_H2, ↓isO_H, ↓rd_HP, ↓gI_B0, ↓pV_B0, ↓gI_B1, ↓pV_B1, ↓gR_B2, ↓gR_B3, ↓gR_B4, ↓gR_B5, ↓gR_B6, ↓gR_B7, ↓gR_B8, ↓isO_B, ↓rd_B301, ↓wr_B301, ↓ln_B301, ↓rd_B302, ↓wr_B302, ↓ln_B302, ↓rd_B303, ↓wr_B303, ↓ln_B303, ↓rd_B304, ↓wr_B304, ↓ln_B304, ↓rd_B305, ↓wr_B305, ↓ln_B305, ↓rd_B306, ↓wr_B306, ↓ln_B306, ↓rd_B307, ↓wr_B307, ↓ln_B307, ↓gR_Tv, ↓isO_Tv, ↓rd_Tv9, ↓wr_Tv9, ↓ln_Tv9, pV_D11, pV_T0, rd_T2, wr_T2, pV_U0, rd_U2, wr_U2, pV_Ps0, pV_Ps1, pV_Ps2, pV_Ps3, pV_Ps4, pV_N0, pV_N1, pV_N2, pV_N3, rd_NL, pV_NB0, rd_NC, wr_NC, rd_NP, wr_NP, pV_V0, pV_V1, pV_V2, pV_V3, rd_VL, pV_VB0, rd_VC, wr_VC, rd_VP, wr_VP, rd_SL, rd_KP, wr_KP, pV_H0, pV_H1, rd_HP, pV_B0, pV_B1, rd_B301, wr_B301, rd_B302, wr_B302, rd_B303, wr_B303, rd_B304, wr_B304, rd_B305, wr_B305, rd_B306, wr_B306, rd_B307, wr_B307, rd_Tv9, wr_Tv9, J_l, J_neg, J_add, J_sub, J_mul, J_lt, J_le, J_eq, J_div2, J_rem2, J_shl1, J_orp, J_or, J_and, J_shr, J_ushr, J_max, J_min, J_abs, J_b0, ↓b0_ite, ↓b0_ite2, b0_ite, bI_r, bV_r, b01_ite, rZ_b, K_l, J_long, M_in, if_pos, hq]
          by_cases h5 : q = 0
          · rw [if_pos h5]
            exact hnext (Or.inl h5)
          · rw [if_neg h5]
            by_cases h6 : a = 0
            · rw [if_pos h6]
              exact hnext (Or.inr (Or.inl h6))
            · rw [if_neg h6]
              by_cases h8 : q = a
              · rw [if_pos h8]
                exact hnext (Or.inr (Or.inr h8))
              · rw [if_neg h8]
                refine ⟨-2, rfl, Or.inr ⟨rfl, ?_⟩⟩
                rcases ha2 with h1 | ⟨i, i1, i2, i3⟩
                · exact absurd h1 h6
                · exact ⟨i, fr c p (s 305 c) + k, ⟨i1, by omega⟩, ⟨by omega, by omega⟩, by show 0 ≤ s 306 i - 1; omega, by show 0 ≤ s 306 (fr c p (s 305 c) + k) - 1; omega, by show s 306 i - 1 ≠ s 306 (fr c p (s 305 c) + k) - 1; omega⟩
        · have e : k = s 305 c := by omega
          subst e
          simp (disch := omega) only [↓gR_D0, ↓gR_D1, ↓gR_D2, ↓gR_D3, ↓gR_D4, ↓gR_D5, ↓gR_D6, ↓gR_D7, ↓gR_D8, ↓gR_D9, ↓gR_D10, ↓gI_D11, ↓pV_D11, ↓isO_D, ↓gI_T0, ↓pV_T0, ↓gR_T1, ↓isO_T, ↓rd_T2, ↓wr_T2, ↓gI_U0, ↓pV_U0, ↓gR_U1, ↓isO_U, ↓rd_U2, ↓wr_U2, ↓gI_Ps0, ↓pV_Ps0, ↓gI_Ps1, ↓pV_Ps1, ↓gI_Ps2, ↓pV_Ps2, ↓gI_Ps3, ↓pV_Ps3, ↓gI_Ps4, ↓pV_Ps4, ↓isO_Ps, ↓gI_N0, ↓pV_N0, ↓gI_N1, ↓pV_N1, ↓gI_N2, ↓pV_N2, ↓gI_N3, ↓pV_N3, ↓gR_N4, ↓gR_N5, ↓isO_N, ↓rd_NL, ↓gI_NB0, ↓pV_NB0, ↓gR_NB1, ↓gR_NB2, ↓isO_NB, ↓rd_NC, ↓wr_NC, ↓ln_NC, ↓rd_NP, ↓wr_NP, ↓ln_NP, ↓gI_V0, ↓pV_V0, ↓gI_V1, ↓pV_V1, ↓gI_V2, ↓pV_V2, ↓gI_V3, ↓pV_V3, ↓gR_V4, ↓gR_V5, ↓isO_V, ↓rd_VL, ↓gI_VB0, ↓pV_VB0, ↓gR_VB1, ↓gR_VB2, ↓isO_VB, ↓rd_VC, ↓wr_VC, ↓ln_VC, ↓rd_VP, ↓wr_VP, ↓ln_VP, ↓rd_SL, ↓rd_KP, ↓wr_KP, ↓gI_H0, ↓pV_H0, ↓gI_H1, ↓pV_H1, ↓gR_H2, ↓isO_H, ↓rd_HP, ↓gI_B0, ↓pV_B0, ↓gI_B1, ↓pV_B1, ↓gR_B2, ↓gR_B3, ↓gR_B4, ↓gR_B5, ↓gR_B6, ↓gR_B7, ↓gR_B8, ↓isO_B, ↓rd_B301, ↓wr_B301, ↓ln_B301, ↓rd_B302, ↓wr_B302, ↓ln_B302, ↓rd_B303, ↓wr_B303, ↓ln_B303, ↓rd_B304, ↓wr_B304, ↓ln_B304, ↓rd_B305, ↓wr_B305, ↓ln_B305, ↓rd_B306, ↓wr_B306, ↓ln_B306, ↓rd_B307, ↓wr_B307, ↓ln_B307, ↓gR_Tv, ↓isO_Tv, ↓rd_Tv9, ↓wr_Tv9, ↓ln_Tv9, pV_D11, pV_T0, rd_T2, wr_T2, pV_U0, rd_U2, wr_U2, pV_Ps0, pV_Ps1, pV_Ps2, pV_Ps3, pV_Ps4, pV_N0, pV_N1, pV_N2, pV_N3, rd_NL, pV_NB0, rd_NC, wr_NC, rd_NP, wr_NP, pV_V0, pV_V1, pV_V2, pV_V3, rd_VL, pV_VB0, rd_VC, wr_VC, rd_VP, wr_VP, rd_SL, rd_KP, wr_KP, pV_H0, pV_H1, rd_HP, pV_B0, pV_B1, rd_B301, wr_B301, rd_B302, wr_B302, rd_B303, wr_B303, rd_B304, wr_B304, rd_B305, wr_B305, rd_B306, wr_B306, rd_B307, wr_B307, rd_Tv9, wr_Tv9, J_l, J_neg, J_add, J_sub, J_mul, J_lt, J_le, J_eq, J_div2, J_rem2, J_shl1, J_orp, J_or, J_and, J_shr, J_ushr, J_max, J_min, J_abs, J_b0, ↓b0_ite, ↓b0_ite2, b0_ite, bI_r, bV_r, b01_ite, rZ_b, K_l, J_long, M_in, if_neg]
          obtain ⟨i0, j1, j2, j3, j4⟩ := hlb
          change 0 ≤ s 306 i0 - 1 at j3
          have j5 := ha3 i0 j1 j2
          refine ⟨a - 1, rfl, Or.inl ⟨by omega, by omega, ⟨i0, j1, j2, by show s 306 i0 - 1 = a - 1; omega⟩, fun i i1 i2 i3 => ?_⟩⟩
          change 0 ≤ s 306 i - 1 at i3
          show s 306 i - 1 = a - 1
          have := ha3 i i1 i2
          omega) (0, 0) ⟨⟨by show (0 : Int) ≤ 0; omega, by show 0 ≤ s 305 c; omega⟩, ⟨by show (0 : Int) ≤ 0; omega, by show (0 : Int) ≤ 1600; omega⟩, Or.inl rfl, fun i i1 i2 => by change i < fr c p (s 305 c) + 0 at i2; omega⟩ (by show s 305 c - 0 < 20000; omega)
      simp only [Int.add_zero] at key
      obtain ⟨r, y1, y2⟩ := key
      exact ⟨r, y1, Or.inr ⟨h7, y2⟩⟩
    · rw [if_neg h7]
      exact ⟨-2, rfl, Or.inl ⟨h7, rfl⟩⟩
end CW
