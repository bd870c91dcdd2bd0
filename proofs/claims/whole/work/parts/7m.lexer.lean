/-! tokens, both sides -/
section LX
variable {z y : Nat} {g g' : XH} {w w' : Int64} {s s' s0 s1 s2 m m' m0 m1 m2 : CT} {G W W' V W1 row row' r0 nm lo lg sn f : Int → Int} {wd hg mt c i j l n p v t k x xx yy N q o to : Int} {a b : Nat} {h : XH}
variable {k r u e d P V T st ln : Int} {w1 w2 : Int64}
def FS (s s' : CT) : Prop := (∀ o, o ≠ 5 → s' o = s o) ∧ s' 5 4 = s 5 4
def FM (m m' : CT) : Prop := (∀ o, o ≠ 0 → m' o = m o) ∧ ∀ j, j ≠ 23 → j ≠ 24 → j ≠ 25 → j ≠ 27 → j ≠ 28 → m' 0 j = m 0 j
theorem FS.refl : FS s s := ⟨fun _ _ => rfl, rfl⟩
theorem FM.refl : FM m m := ⟨fun _ _ => rfl, fun _ _ _ _ _ _ => rfl⟩
theorem FS.trans (h1 : FS s s1) (h2 : FS s1 s2) : FS s s2 := ⟨fun o ho => by rw [h2.1 o ho, h1.1 o ho], by rw [h2.2, h1.2]⟩
theorem FM.trans (h1 : FM m m1) (h2 : FM m1 m2) : FM m m2 := ⟨fun o ho => by rw [h2.1 o ho, h1.1 o ho], fun j a b c d e => by rw [h2.2 j a b c d e, h1.2 j a b c d e]⟩
theorem FS_w (hi0 : i ≠ 4) : FS s (rs s 5 (ru (s 5) i v)) := ⟨fun o ho => rs_ne ho, by rw [rs_same, ru_ne (fun e => hi0 e.symm)]⟩
theorem FM_w (hi0 : i = 23 ∨ i = 24 ∨ i = 25 ∨ i = 27 ∨ i = 28) : FM m (rs m 0 (ru (m 0) i v)) := ⟨fun o ho => rs_ne ho, fun j a b c d e => by rw [rs_same, ru_ne (by omega)]⟩
theorem TapeI_f (h : TapeI s m) (hs : FS s s') (hm : FM m m') : TapeI s' m' := by
  unfold TapeI at *
  rw [hs.1 1 (by decide), hs.1 2 (by decide), hm.1 1 (by decide), hm.2 1 (by decide) (by decide) (by decide) (by decide) (by decide)]
  exact h
def ub (b : Int) : Int := if b < 0 then b + 256 else b
theorem ub_J : ∀ b : Fin 256, (J ((b.1 : Int) - 128) &&& J 255) = J (ub ((b.1 : Int) - 128)) := by decide +kernel
theorem C_byteAt (hT : TapeI s m) (hp : 0 ≤ p ∧ p ≤ 1000) : qT_byteAt (z + 1) (J p) (hi z TD g w s) = rI (J (if p < m 0 1 then ub (m 1 p) else -1)) (hi z TD g w s) := by
  obtain ⟨h1, h2, h3⟩ := hT
  unfold qT_byteAt
  simp (disch := omega) only [↓gR_D0, ↓gR_D1, ↓gR_D2, ↓gR_D3, ↓gR_D4, ↓gR_D5, ↓gR_D6, ↓gR_D7, ↓gR_D8, ↓gR_D9, ↓gR_D10, ↓gI_D11, ↓pV_D11, ↓isO_D, ↓gI_T0, ↓pV_T0, ↓gR_T1, ↓isO_T, ↓rd_T2, ↓wr_T2, ↓gI_U0, ↓pV_U0, ↓gR_U1, ↓isO_U, ↓rd_U2, ↓wr_U2, ↓gI_Ps0, ↓pV_Ps0, ↓gI_Ps1, ↓pV_Ps1, ↓gI_Ps2, ↓pV_Ps2, ↓gI_Ps3, ↓pV_Ps3, ↓gI_Ps4, ↓pV_Ps4, ↓isO_Ps, ↓gI_N0, ↓pV_N0, ↓gI_N1, ↓pV_N1, ↓gI_N2, ↓pV_N2, ↓gI_N3, ↓pV_N3, ↓gR_N4, ↓gR_N5, ↓isO_N, ↓rd_NL, ↓gI_NB0, ↓pV_NB0, ↓gR_NB1, ↓gR_NB2, ↓isO_NB, ↓rd_NC, ↓wr_NC, ↓ln_NC, ↓rd_NP, ↓wr_NP, ↓ln_NP, ↓gI_V0, ↓pV_V0, ↓gI_V1, ↓pV_V1, ↓gI_V2, ↓pV_V2, ↓gI_V3, ↓pV_V3, ↓gR_V4, ↓gR_V5, ↓isO_V, ↓rd_VL, ↓gI_VB0, ↓pV_VB0, ↓gR_VB1, ↓gR_VB2, ↓isO_VB, ↓rd_VC, ↓wr_VC, ↓ln_VC, ↓rd_VP, ↓wr_VP, ↓ln_VP, ↓rd_SL, ↓rd_KP, ↓wr_KP, ↓gI_H0, ↓pV_H0, ↓gI_H1, ↓pV_H1, ↓gR_H2, ↓isO_H, ↓rd_HP, ↓gI_B0, ↓pV_B0, ↓gI_B1, ↓pV_B1, ↓gR_B2, ↓gR_B3, ↓gR_B4, ↓gR_B5, ↓gR_B6, ↓gR_B7, ↓gR_B8, ↓isO_B, ↓rd_B301, ↓wr_B301, ↓ln_B301, ↓rd_B302, ↓wr_B302, ↓ln_B302, ↓rd_B303, ↓wr_B303, ↓ln_B303, ↓rd_B304, ↓wr_B304, ↓ln_B304, ↓rd_B305, ↓wr_B305, ↓ln_B305, ↓rd_B306, ↓wr_B306, ↓ln_B306, ↓rd_B307, ↓wr_B307, ↓ln_B307, ↓gR_Tv, ↓isO_Tv, ↓rd_Tv9, ↓wr_Tv9, ↓ln_Tv9, pV_D11, pV_T0, rd_T2, wr_T2, pV_U0, rd_U2, wr_U2, pV_Ps0, pV_Ps1, pV_Ps2, pV_Ps3, pV_Ps4, pV_N0, pV_N1, pV_N2, pV_N3, rd_NL, pV_NB0, rd_NC, wr_NC, rd_NP, wr_NP, pV_V0, pV_V1, pV_V2, pV_V3, rd_VL, pV_VB0, rd_VC, wr_VC, rd_VP, wr_VP, rd_SL, rd_KP, wr_KP, pV_H0, pV_H1, rd_HP, pV_B0, pV_B1, rd_B301, wr_B301, rd_B302, wr_B302, rd_B303, wr_B303, rd_B304, wr_B304, rd_B305, wr_B305, rd_B306, wr_B306, rd_B307, wr_B307, rd_Tv9, wr_Tv9, J_l, J_neg, J_add, J_sub, J_mul, J_lt, J_le, J_eq, J_div2, J_rem2, J_shl1, J_orp, J_or, J_and, J_shr, J_ushr, J_max, J_min, J_abs, J_b0, ↓b0_ite, ↓b0_ite2, b0_ite, bI_r, bV_r, b01_ite, ite_true, ite_false, rZ_b, K_l, J_long, M_in, h1]
  rw [if_neg (show ¬p < 0 by omega)]
  by_cases h0 : p < m 0 1
  · have x := h3 p hp.1 h0
    have y := ub_J ⟨(m 1 p + 128).toNat, by omega⟩
    rw [show (((m 1 p + 128).toNat : Nat) : Int) - 128 = m 1 p by omega] at y
    rw [if_pos h0, if_pos h0, x.1, y]
  · rw [if_neg h0, if_neg h0]
theorem ub_bd (h : -128 ≤ v ∧ v < 128) : 0 ≤ ub v ∧ ub v < 256 := by
  unfold ub
  split <;> omega
theorem C_isLetter (h : -128 ≤ v ∧ v < 128) {h' : XH} : qPs_isLetter (J (ub v)) h' = rI (J (b01 (97 ≤ v ∧ v ≤ 122))) h' := by
  have b := ub_bd h
  have e : ub v = if v < 0 then v + 256 else v := rfl
  unfold qPs_isLetter
  simp (disch := omega) only [J_l, J_neg, J_add, J_sub, J_mul, J_lt, J_le, J_eq, J_div2, J_rem2, J_shl1, J_orp, J_or, J_and, J_shr, J_ushr, J_max, J_min, J_abs, J_b0, ↓b0_ite, ↓b0_ite2, b0_ite, bI_r, bV_r, b01_ite, ite_true, ite_false, rZ_b, K_l, J_long, M_in]
  by_cases h0 : v < 0
  · rw [if_pos h0] at e
    rw [b01_neg (by omega)]
    rw [if_neg (by omega), if_pos (by omega)]
  · rw [if_neg h0] at e
    rw [e]
    by_cases h1 : v < 97
    · rw [if_pos h1, b01_neg (by omega)]
    · rw [if_neg h1]
      by_cases h2 : 122 < v
      · rw [if_pos h2, b01_neg (by omega)]
      · rw [if_neg h2, b01_pos (by omega)]
theorem C_isDigit (h : -128 ≤ v ∧ v < 128) {h' : XH} : qPs_isDigit (J (ub v)) h' = rI (J (b01 (48 ≤ v ∧ v ≤ 57))) h' := by
  have b := ub_bd h
  have e : ub v = if v < 0 then v + 256 else v := rfl
  unfold qPs_isDigit
  simp (disch := omega) only [J_l, J_neg, J_add, J_sub, J_mul, J_lt, J_le, J_eq, J_div2, J_rem2, J_shl1, J_orp, J_or, J_and, J_shr, J_ushr, J_max, J_min, J_abs, J_b0, ↓b0_ite, ↓b0_ite2, b0_ite, bI_r, bV_r, b01_ite, ite_true, ite_false, rZ_b, K_l, J_long, M_in]
  by_cases h0 : v < 0
  · rw [if_pos h0] at e
    rw [b01_neg (by omega)]
    rw [if_neg (by omega), if_pos (by omega)]
  · rw [if_neg h0] at e
    rw [e]
    by_cases h1 : v < 48
    · rw [if_pos h1, b01_neg (by omega)]
    · rw [if_neg h1]
      by_cases h2 : 57 < v
      · rw [if_pos h2, b01_neg (by omega)]
      · rw [if_neg h2, b01_pos (by omega)]
theorem C_isBlank (h : -128 ≤ v ∧ v < 128) {h' : XH} : qPs_isBlank (J (ub v)) h' = rI (J (b01 (v = 32 ∨ v = 10))) h' := by
  have b := ub_bd h
  have e2 : ub v = 32 ↔ v = 32 := by unfold ub; split <;> omega
  have e3 : ub v = 10 ↔ v = 10 := by unfold ub; split <;> omega
  unfold qPs_isBlank
  simp (disch := omega) only [J_l, J_neg, J_add, J_sub, J_mul, J_lt, J_le, J_eq, J_div2, J_rem2, J_shl1, J_orp, J_or, J_and, J_shr, J_ushr, J_max, J_min, J_abs, J_b0, ↓b0_ite, ↓b0_ite2, b0_ite, bI_r, bV_r, b01_ite, ite_true, ite_false, rZ_b, K_l, J_long, M_in]
  by_cases h1 : ub v = 32
  · rw [if_pos h1, b01_pos (Or.inl (e2.mp h1))]
  · rw [if_neg h1]
    exact congrArg (fun v => rI (J v) _) (b01_congr ⟨fun q => Or.inr (e3.mp q), fun q => q.elim (fun q => absurd (e2.mpr q) h1) e3.mpr⟩)
theorem M_isByte (hT : TapeI s m) (hp : m 0 23 = p ∧ 0 ≤ p ∧ p ≤ 1000) (hi0 : 0 ≤ i ∧ i ≤ 200) (hj : 0 ≤ j ∧ j ≤ 200) : qM_isByte y (J i) (J j) (hi y TM g w m) = rI (J (b01 (p < m 0 1 ∧ i ≤ m 1 p ∧ m 1 p ≤ j))) (hi y TM g w m) := by
  obtain ⟨h1, h2, h3⟩ := hT
  unfold qM_isByte
  simp (disch := omega) only [↓isO_M, ↓gL_H, ↓pL_H, ↓gI_M1, ↓gI_M2, ↓gI_M3, ↓gI_M4, ↓gI_M5, ↓gI_M6, ↓gI_M13, ↓gI_M22, ↓gI_M23, ↓gI_M24, ↓gI_M25, ↓gI_M27, ↓gI_M28, ↓gI_M29, ↓gI_M30, ↓gI_M31, ↓gI_M32, ↓gI_M33, ↓gI_M34, ↓gI_M35, ↓gI_M40, ↓gI_M41, ↓gI_M42, ↓gI_M43, ↓pV_M1, ↓pV_M2, ↓pV_M3, ↓pV_M4, ↓pV_M5, ↓pV_M6, ↓pV_M13, ↓pV_M22, ↓pV_M23, ↓pV_M24, ↓pV_M25, ↓pV_M27, ↓pV_M28, ↓pV_M29, ↓pV_M30, ↓pV_M31, ↓pV_M32, ↓pV_M33, ↓pV_M34, ↓pV_M35, ↓pV_M40, ↓pV_M41, ↓pV_M42, ↓pV_M43, ↓gR_M0, ↓gR_M7, ↓gR_M8, ↓gR_M9, ↓gR_M10, ↓gR_M11, ↓gR_M12, ↓gR_M14, ↓gR_M15, ↓gR_M16, ↓gR_M17, ↓gR_M18, ↓gR_M19, ↓gR_M20, ↓gR_M21, ↓gR_M36, ↓gR_M37, ↓gR_M38, ↓gR_M39, ↓rd_M1, ↓rd_M2, ↓rd_M3, ↓rd_M4, ↓rd_M5, ↓rd_M6, ↓rd_M7, ↓rd_M8, ↓rd_M9, ↓rd_M10, ↓rd_M11, ↓rd_M12, ↓rd_M13, ↓rd_M14, ↓rd_M15, ↓rd_M16, ↓rd_M17, ↓rd_M18, ↓rd_M19, ↓wr_M1, ↓wr_M2, ↓wr_M3, ↓wr_M4, ↓wr_M5, ↓wr_M6, ↓wr_M7, ↓wr_M8, ↓wr_M9, ↓wr_M10, ↓wr_M11, ↓wr_M12, ↓wr_M13, ↓wr_M14, ↓wr_M15, ↓wr_M16, ↓wr_M17, ↓wr_M18, ↓wr_M19, pL_H, pV_M1, pV_M2, pV_M3, pV_M4, pV_M5, pV_M6, pV_M13, pV_M22, pV_M23, pV_M24, pV_M25, pV_M27, pV_M28, pV_M29, pV_M30, pV_M31, pV_M32, pV_M33, pV_M34, pV_M35, pV_M40, pV_M41, pV_M42, pV_M43, rd_M1, rd_M2, rd_M3, rd_M4, rd_M5, rd_M6, rd_M7, rd_M8, rd_M9, rd_M10, rd_M11, rd_M12, rd_M13, rd_M14, rd_M15, rd_M16, rd_M17, rd_M18, rd_M19, wr_M1, wr_M2, wr_M3, wr_M4, wr_M5, wr_M6, wr_M7, wr_M8, wr_M9, wr_M10, wr_M11, wr_M12, wr_M13, wr_M14, wr_M15, wr_M16, wr_M17, wr_M18, wr_M19, J_l, J_neg, J_add, J_sub, J_mul, J_lt, J_le, J_eq, J_div2, J_rem2, J_shl1, J_orp, J_or, J_and, J_shr, J_ushr, J_max, J_min, J_abs, J_b0, ↓b0_ite, ↓b0_ite2, b0_ite, bI_r, bV_r, b01_ite, ite_true, ite_false, rZ_b, K_l, J_long, M_in, hp.1]
  by_cases h0 : p < m 0 1
  · have x := h3 p hp.2.1 h0
    rw [if_pos h0]
    simp (disch := omega) only [↓isO_M, ↓gL_H, ↓pL_H, ↓gI_M1, ↓gI_M2, ↓gI_M3, ↓gI_M4, ↓gI_M5, ↓gI_M6, ↓gI_M13, ↓gI_M22, ↓gI_M23, ↓gI_M24, ↓gI_M25, ↓gI_M27, ↓gI_M28, ↓gI_M29, ↓gI_M30, ↓gI_M31, ↓gI_M32, ↓gI_M33, ↓gI_M34, ↓gI_M35, ↓gI_M40, ↓gI_M41, ↓gI_M42, ↓gI_M43, ↓pV_M1, ↓pV_M2, ↓pV_M3, ↓pV_M4, ↓pV_M5, ↓pV_M6, ↓pV_M13, ↓pV_M22, ↓pV_M23, ↓pV_M24, ↓pV_M25, ↓pV_M27, ↓pV_M28, ↓pV_M29, ↓pV_M30, ↓pV_M31, ↓pV_M32, ↓pV_M33, ↓pV_M34, ↓pV_M35, ↓pV_M40, ↓pV_M41, ↓pV_M42, ↓pV_M43, ↓gR_M0, ↓gR_M7, ↓gR_M8, ↓gR_M9, ↓gR_M10, ↓gR_M11, ↓gR_M12, ↓gR_M14, ↓gR_M15, ↓gR_M16, ↓gR_M17, ↓gR_M18, ↓gR_M19, ↓gR_M20, ↓gR_M21, ↓gR_M36, ↓gR_M37, ↓gR_M38, ↓gR_M39, ↓rd_M1, ↓rd_M2, ↓rd_M3, ↓rd_M4, ↓rd_M5, ↓rd_M6, ↓rd_M7, ↓rd_M8, ↓rd_M9, ↓rd_M10, ↓rd_M11, ↓rd_M12, ↓rd_M13, ↓rd_M14, ↓rd_M15, ↓rd_M16, ↓rd_M17, ↓rd_M18, ↓rd_M19, ↓wr_M1, ↓wr_M2, ↓wr_M3, ↓wr_M4, ↓wr_M5, ↓wr_M6, ↓wr_M7, ↓wr_M8, ↓wr_M9, ↓wr_M10, ↓wr_M11, ↓wr_M12, ↓wr_M13, ↓wr_M14, ↓wr_M15, ↓wr_M16, ↓wr_M17, ↓wr_M18, ↓wr_M19, pL_H, pV_M1, pV_M2, pV_M3, pV_M4, pV_M5, pV_M6, pV_M13, pV_M22, pV_M23, pV_M24, pV_M25, pV_M27, pV_M28, pV_M29, pV_M30, pV_M31, pV_M32, pV_M33, pV_M34, pV_M35, pV_M40, pV_M41, pV_M42, pV_M43, rd_M1, rd_M2, rd_M3, rd_M4, rd_M5, rd_M6, rd_M7, rd_M8, rd_M9, rd_M10, rd_M11, rd_M12, rd_M13, rd_M14, rd_M15, rd_M16, rd_M17, rd_M18, rd_M19, wr_M1, wr_M2, wr_M3, wr_M4, wr_M5, wr_M6, wr_M7, wr_M8, wr_M9, wr_M10, wr_M11, wr_M12, wr_M13, wr_M14, wr_M15, wr_M16, wr_M17, wr_M18, wr_M19, J_l, J_neg, J_add, J_sub, J_mul, J_lt, J_le, J_eq, J_div2, J_rem2, J_shl1, J_orp, J_or, J_and, J_shr, J_ushr, J_max, J_min, J_abs, J_b0, ↓b0_ite, ↓b0_ite2, b0_ite, bI_r, bV_r, b01_ite, ite_true, ite_false, rZ_b, K_l, J_long, M_in, hp.1]
    by_cases h4 : m 1 p < i
    · rw [if_pos h4, b01_neg (by omega)]
    · rw [if_neg h4]
      by_cases h5 : j < m 1 p
      · rw [if_pos h5, b01_neg (by omega)]
      · rw [if_neg h5, b01_pos (by omega)]
  · rw [if_neg h0, b01_neg (by omega)]
/-- the keywords: their numbers to the base 32 -/
def keyN (k : Int) : Int := if k = 5 then 2590276 else if k = 6 then 677454 else if k = 7 then 402885 else if k = 8 then 632645 else if k = 9 then 20594195 else 52
def TkR (kC tC kM : Int) (w : Int64) (nM lM : Int) : Prop := (kC = 0 ∧ kM = 0) ∨ (kC = 1 ∧ kM = 5) ∨ (kC = 2 ∧ kM = 3 ∧ tC = nM ∧ 0 ≤ nM ∧ nM < 100) ∨ (kC = 3 ∧ kM = 4) ∨ (kC = 4 ∧ kM = 1 ∧ tC = lM ∧ NmOk tC) ∨ ((5 ≤ kC ∧ kC ≤ 10) ∧ kM = 2 ∧ w = K (keyN kC))
/-- what both sides know after a token is formed -/
def Lx (s m : CT) (w : Int64) : Prop := TapeI s m ∧ (s 5 0 = m 0 23 ∧ 0 ≤ m 0 23 ∧ m 0 23 ≤ m 0 1) ∧ (s 5 1 = m 0 24 ∧ 0 ≤ m 0 24 ∧ m 0 24 ≤ 1000) ∧ TkR (s 5 2) (s 5 3) (m 0 25) w (m 0 27) (m 0 28)
/-! words -/
def VD (V c : Int) : Prop := ∀ j, 0 ≤ j → j < c → 1 ≤ V / pw (5 * j) % 32 ∧ V / pw (5 * j) % 32 ≤ 26
theorem pw_5 (h : 1 ≤ j) : pw (5 * j) = 32 * pw (5 * (j - 1)) := by
  have e : 5 * j = 5 * (j - 1) + 1 + 1 + 1 + 1 + 1 := by omega
  rw [e, pw_s (by omega), pw_s (by omega), pw_s (by omega), pw_s (by omega), pw_s (by omega)]
  omega
theorem VD_s (h : VD V c) (hV : 0 ≤ V) (hd : 1 ≤ d ∧ d ≤ 26) : VD (32 * V + d) (c + 1) := fun j j0 j1 => by
  by_cases e : j = 0
  · rw [e]
    have : pw (5 * 0) = 1 := by decide
    rw [this]
    omega
  · rw [pw_5 (by omega), ← Int.ediv_ediv_of_nonneg (by omega), show (32 * V + d) / 32 = V by omega]
    exact h (j - 1) (by omega) (by omega)
/-- a word of c letters: packed, and as a number -/
def WI (c P V : Int) : Prop := (0 ≤ P ∧ P < 1073741824) ∧ (c ≤ 6 → VD V c ∧ ((c = 0 ∧ P = 0 ∧ V = 0) ∨ (c = 1 ∧ P = V * 33554432 ∧ 1 ≤ V ∧ V < 32) ∨ (c = 2 ∧ P = V * 1048576 ∧ 32 ≤ V ∧ V < 1024) ∨ (c = 3 ∧ P = V * 32768 ∧ 1024 ≤ V ∧ V < 32768) ∨ (c = 4 ∧ P = V * 1024 ∧ 32768 ≤ V ∧ V < 1048576) ∨ (c = 5 ∧ P = V * 32 ∧ 1048576 ≤ V ∧ V < 33554432) ∨ (c = 6 ∧ P = V ∧ 33554432 ≤ V ∧ V < 1073741824))) ∧ (6 < c → c ≤ 8 → 1073741824 ≤ V ∧ V < 1099511627776 ∧ (c = 7 → V < 34359738368)) ∧ (8 < c → V = 0)
theorem WI_0 : WI 0 0 0 := ⟨by omega, fun _ => ⟨fun j j0 j1 => by omega, Or.inl ⟨rfl, rfl, rfl⟩⟩, fun q => by omega, fun q => by omega⟩
/-- the letter's place in a packed word -/
def lsh (c d : Int) : Int := d * (if c = 0 then 33554432 else if c = 1 then 1048576 else if c = 2 then 32768 else if c = 3 then 1024 else if c = 4 then 32 else 1)
theorem shl_J : ∀ d : Fin 27, ∀ c : Fin 6, jshl (J (d.1 : Nat)) (J (25 - 5 * (c.1 : Int))) = J (lsh c.1 d.1) := by decide +kernel
theorem ior_add {a q : Nat} {b : Int} (hb : 0 ≤ b ∧ b < ((2 ^ q : Nat) : Int)) : ior ((2 ^ q * a : Nat) : Int) b = ((2 ^ q * a : Nat) : Int) + b := by
  obtain ⟨k, rfl⟩ : ∃ k : Nat, b = k := ⟨b.toNat, by omega⟩
  have := Nat.two_pow_add_eq_or_of_lt (show k < 2 ^ q by omega) a
  unfold ior
  rw [Int.toNat_natCast, Int.toNat_natCast, ← this]
  omega
theorem WI_or (hc : 0 ≤ c ∧ c < 6) (h : WI c P V) (hd : 1 ≤ d ∧ d ≤ 26) : ior P (lsh c d) = P + lsh c d := by
  obtain ⟨h1, h2, _⟩ := h
  have h3 := (h2 (by omega)).2
  unfold lsh
  rcases h3 with ⟨q1, q2, q3⟩ | ⟨q1, q2, q3⟩ | ⟨q1, q2, q3⟩ | ⟨q1, q2, q3⟩ | ⟨q1, q2, q3⟩ | ⟨q1, q2, q3⟩ | ⟨q1, q2, q3⟩
  · subst q1
    rw [if_pos rfl, q2]
    have := ior_add (a := 0) (q := 30) (b := d * 33554432) ⟨by omega, by show d * 33554432 < 1073741824; omega⟩
    exact this
  · subst q1
    rw [if_neg (by omega), if_pos rfl]
    have := ior_add (a := V.toNat) (q := 25) (b := d * 1048576) ⟨by omega, by show d * 1048576 < 33554432; omega⟩
    rw [show ((2 ^ 25 * V.toNat : Nat) : Int) = P by
      show ((33554432 * V.toNat : Nat) : Int) = P
      omega] at this
    exact this
  · subst q1
    rw [if_neg (by omega), if_neg (by omega), if_pos rfl]
    have := ior_add (a := V.toNat) (q := 20) (b := d * 32768) ⟨by omega, by show d * 32768 < 1048576; omega⟩
    rw [show ((2 ^ 20 * V.toNat : Nat) : Int) = P by
      show ((1048576 * V.toNat : Nat) : Int) = P
      omega] at this
    exact this
  · subst q1
    rw [if_neg (by omega), if_neg (by omega), if_neg (by omega), if_pos rfl]
    have := ior_add (a := V.toNat) (q := 15) (b := d * 1024) ⟨by omega, by show d * 1024 < 32768; omega⟩
    rw [show ((2 ^ 15 * V.toNat : Nat) : Int) = P by
      show ((32768 * V.toNat : Nat) : Int) = P
      omega] at this
    exact this
  · subst q1
    rw [if_neg (by omega), if_neg (by omega), if_neg (by omega), if_neg (by omega), if_pos rfl]
    have := ior_add (a := V.toNat) (q := 10) (b := d * 32) ⟨by omega, by show d * 32 < 1024; omega⟩
    rw [show ((2 ^ 10 * V.toNat : Nat) : Int) = P by
      show ((1024 * V.toNat : Nat) : Int) = P
      omega] at this
    exact this
  · subst q1
    rw [if_neg (by omega), if_neg (by omega), if_neg (by omega), if_neg (by omega), if_neg (by omega)]
    have := ior_add (a := V.toNat) (q := 5) (b := d * 1) ⟨by omega, by show d * 1 < 32; omega⟩
    rw [show ((2 ^ 5 * V.toNat : Nat) : Int) = P by
      show ((32 * V.toNat : Nat) : Int) = P
      omega] at this
    exact this
  · omega
theorem WI_s (hc : 0 ≤ c) (h : WI c P V) (hd : 1 ≤ d ∧ d ≤ 26) : WI (c + 1) (if c < 6 then P + lsh c d else P) (if c < 8 then 32 * V + d else 0) := by
  obtain ⟨h1, h2, h3, h4⟩ := h
  by_cases c6 : c < 6
  · rw [if_pos c6, if_pos (by omega)]
    obtain ⟨hv, h5⟩ := h2 (by omega)
    have hV : 0 ≤ V := by omega
    have hvs := VD_s hv hV hd
    unfold lsh
    rcases h5 with ⟨q1, q2, q3⟩ | ⟨q1, q2, q3⟩ | ⟨q1, q2, q3⟩ | ⟨q1, q2, q3⟩ | ⟨q1, q2, q3⟩ | ⟨q1, q2, q3⟩ | ⟨q1, q2, q3⟩
    · subst q1
      rw [if_pos rfl]
      exact ⟨by omega, fun _ => ⟨hvs, by omega⟩, fun q => by omega, fun q => by omega⟩
    · subst q1
      rw [if_neg (by omega), if_pos rfl]
      exact ⟨by omega, fun _ => ⟨hvs, by omega⟩, fun q => by omega, fun q => by omega⟩
    · subst q1
      rw [if_neg (by omega), if_neg (by omega), if_pos rfl]
      exact ⟨by omega, fun _ => ⟨hvs, by omega⟩, fun q => by omega, fun q => by omega⟩
    · subst q1
      rw [if_neg (by omega), if_neg (by omega), if_neg (by omega), if_pos rfl]
      exact ⟨by omega, fun _ => ⟨hvs, by omega⟩, fun q => by omega, fun q => by omega⟩
    · subst q1
      rw [if_neg (by omega), if_neg (by omega), if_neg (by omega), if_neg (by omega), if_pos rfl]
      exact ⟨by omega, fun _ => ⟨hvs, by omega⟩, fun q => by omega, fun q => by omega⟩
    · subst q1
      rw [if_neg (by omega), if_neg (by omega), if_neg (by omega), if_neg (by omega), if_neg (by omega)]
      exact ⟨by omega, fun _ => ⟨hvs, by omega⟩, fun q => by omega, fun q => by omega⟩
    · omega
  · rw [if_neg c6]
    by_cases c8 : c < 8
    · rw [if_pos c8]
      refine ⟨h1, fun q => by omega, fun _ _ => ?_, fun q => by omega⟩
      by_cases e : c = 6
      · have := (h2 (by omega)).2
        omega
      · have := h3 (by omega) (by omega)
        have : c = 7 := by omega
        -- seven letters: below 32^7
        omega
    · rw [if_neg c8]
      exact ⟨h1, fun q => by omega, fun q q2 => by omega, fun _ => rfl⟩
end LX
