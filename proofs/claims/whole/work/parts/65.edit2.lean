/-! a point is removed, a line is turned round -/
section EE
variable {z y : Nat} {g g' : XH} {w w' : Int64} {s s' s0 s1 m m' m0 : CT} {W W' V W1 row nm FX FY f : Int → Int} {wd hg mt c i j l n p v t k x xx yy N q : Int} {a b : Nat} {h : XH}
theorem C_dropPoint (hN : s 310 1 = N) (hN2 : 2 ≤ N ∧ N ≤ 10) (hp : 0 ≤ p ∧ p < N) : ∃ s', qLn_dropPoint (z + 310) (J p) (hi z TD g w s) = rV (hi z TD g w s') ∧ (∀ o, o ≠ 310 → o ≠ 311 → o ≠ 312 → s' o = s o) ∧ s' 311 = shD (s 311) p (N - 1) ∧ s' 312 = shD (s 312) p (N - 1) ∧ s' 310 = ru (s 310) 1 (N - 1) := by
  have ha := isLn_310
  have key := loopI (S := Int × CT) (fun M q => qLn_dropPoint_25 M (z + 310) (J q.1) (hi z TD g w q.2)) (fun X => ∃ u, X = rV (hi z TD g w u) ∧ (∀ o, o ≠ 310 → o ≠ 311 → o ≠ 312 → u o = s o) ∧ u 310 = ru (s 310) 1 (N - 1) ∧ u 311 = shD (s 311) p (N - 1) ∧ u 312 = shD (s 312) p (N - 1)) (fun q => (p ≤ q.1 ∧ q.1 ≤ N - 1) ∧ (∀ o, o ≠ 310 → o ≠ 311 → o ≠ 312 → q.2 o = s o) ∧ q.2 310 = ru (s 310) 1 (N - 1) ∧ q.2 311 = shD (s 311) p q.1 ∧ q.2 312 = shD (s 312) p q.1) (fun q => N - 1 - q.1) (by intro q hq; omega) (fun M q hq ih => by
    obtain ⟨i, u⟩ := q
    obtain ⟨⟨i1, i2⟩, hu, hu0, hu1, hu2⟩ := hq
    change p ≤ i at i1
    change i ≤ N - 1 at i2
    change ∀ o, o ≠ 310 → o ≠ 311 → o ≠ 312 → u o = s o at hu
    change u 310 = ru (s 310) 1 (N - 1) at hu0
    change u 311 = shD (s 311) p i at hu1
    change u 312 = shD (s 312) p i at hu2
    have e1 : u 310 1 = N - 1 := by rw [hu0, ru_same]
    show ∃ u', qLn_dropPoint_25_b (qLn_dropPoint_25 M) (z + 310) (J i) (hi z TD g w u) = _ ∧ _
    unfold qLn_dropPoint_25_b
    simp (disch := first | assumption | omega) only [↓isO_L, ↓gI_L0, ↓pV_L0, ↓gI_L1, ↓pV_L1, ↓gI_L2, ↓pV_L2, ↓gI_L3, ↓pV_L3, ↓gR_L4, ↓rd_L4, ↓wr_L4, ↓gR_L5, ↓rd_L5, ↓wr_L5, pV_L0, pV_L1, pV_L2, pV_L3, rd_L4, wr_L4, rd_L5, wr_L5, J_l, J_neg, J_add, J_sub, J_mul, J_lt, J_le, J_eq, J_div2, J_rem2, J_shl1, J_orp, J_or, J_and, J_shr, J_ushr, J_max, J_min, J_abs, J_b0, ↓b0_ite, ↓b0_ite2, b0_ite, bI_r, bV_r, b01_ite, ite_true, ite_false, rZ_b, K_l, J_long, M_in, rs_same, rs_ne, rs_rs, ru_same, ru_ne, ne_eq, e1]
    by_cases hc : i < N - 1
    · rw [if_pos hc]
      try simp (disch := first | assumption | omega) only [↓isO_L, ↓gI_L0, ↓pV_L0, ↓gI_L1, ↓pV_L1, ↓gI_L2, ↓pV_L2, ↓gI_L3, ↓pV_L3, ↓gR_L4, ↓rd_L4, ↓wr_L4, ↓gR_L5, ↓rd_L5, ↓wr_L5, pV_L0, pV_L1, pV_L2, pV_L3, rd_L4, wr_L4, rd_L5, wr_L5, J_l, J_neg, J_add, J_sub, J_mul, J_lt, J_le, J_eq, J_div2, J_rem2, J_shl1, J_orp, J_or, J_and, J_shr, J_ushr, J_max, J_min, J_abs, J_b0, ↓b0_ite, ↓b0_ite2, b0_ite, bI_r, bV_r, b01_ite, ite_true, ite_false, rZ_b, K_l, J_long, M_in, rs_same, rs_ne, rs_rs, ru_same, ru_ne, ne_eq]
      refine ih (i + 1, rs (rs u 311 (ru (u 311) i (u 311 (i + 1)))) 312 (ru (u 312) i (u 312 (i + 1)))) ⟨⟨by show p ≤ i + 1; omega, by show i + 1 ≤ N - 1; omega⟩, fun o o1 o2 o3 => ?_, ?_, ?_, ?_⟩ (by show N - 1 - (i + 1) < N - 1 - i; omega)
      · show rs (rs u 311 (ru (u 311) i (u 311 (i + 1)))) 312 (ru (u 312) i (u 312 (i + 1))) o = s o
        rw [rs_ne o3, rs_ne o2, hu o o1 o2 o3]
      · show rs (rs u 311 (ru (u 311) i (u 311 (i + 1)))) 312 (ru (u 312) i (u 312 (i + 1))) 310 = ru (s 310) 1 (N - 1)
        rw [rs_ne (by decide), rs_ne (by decide), hu0]
      · show rs (rs u 311 (ru (u 311) i (u 311 (i + 1)))) 312 (ru (u 312) i (u 312 (i + 1))) 311 = shD (s 311) p (i + 1)
        rw [rs_ne (by decide), rs_same, hu1, shD_s i1]
      · show rs (rs u 311 (ru (u 311) i (u 311 (i + 1)))) 312 (ru (u 312) i (u 312 (i + 1))) 312 = shD (s 312) p (i + 1)
        rw [rs_same, hu2, shD_s i1]
    · rw [if_neg hc]
      rw [show i = N - 1 by omega] at hu1 hu2
      exact ⟨u, rfl, hu, hu0, hu1, hu2⟩) (p, rs s 310 (ru (s 310) 1 (N - 1))) ⟨⟨Int.le_refl p, by show p ≤ N - 1; omega⟩, fun o o1 _ _ => rs_ne o1, by show rs s 310 (ru (s 310) 1 (N - 1)) 310 = _; rw [rs_same], by show rs s 310 (ru (s 310) 1 (N - 1)) 311 = shD (s 311) p p; rw [shD_r, rs_ne (by decide)], by show rs s 310 (ru (s 310) 1 (N - 1)) 312 = shD (s 312) p p; rw [shD_r, rs_ne (by decide)]⟩ (by show N - 1 - p < 20000; omega)
  obtain ⟨u, e1, f1, f2, f3, f4⟩ := key
  unfold qLn_dropPoint
  simp (disch := first | assumption | omega) only [↓isO_L, ↓gI_L0, ↓pV_L0, ↓gI_L1, ↓pV_L1, ↓gI_L2, ↓pV_L2, ↓gI_L3, ↓pV_L3, ↓gR_L4, ↓rd_L4, ↓wr_L4, ↓gR_L5, ↓rd_L5, ↓wr_L5, pV_L0, pV_L1, pV_L2, pV_L3, rd_L4, wr_L4, rd_L5, wr_L5, J_l, J_neg, J_add, J_sub, J_mul, J_lt, J_le, J_eq, J_div2, J_rem2, J_shl1, J_orp, J_or, J_and, J_shr, J_ushr, J_max, J_min, J_abs, J_b0, ↓b0_ite, ↓b0_ite2, b0_ite, bI_r, bV_r, b01_ite, ite_true, ite_false, rZ_b, K_l, J_long, M_in, rs_same, rs_ne, rs_rs, ru_same, ru_ne, ne_eq, hN, if_neg, if_pos]
  exact ⟨u, e1, f1, f3, f4, f2⟩
theorem B_removePoint (hg0 : GOk g z) (hI : Inv s m) (hl : -2147483648 ≤ l ∧ l < 2147483648) (hp : -2147483648 ≤ p ∧ p < 2147483648) : Both (qD_removePoint z (J l) (J p) (hi z TD g w s)) (qM_removePoint y (J l) (J p) (hi y TM g' w' m)) z y g g' w w' := by
  have hIk := hI
  obtain ⟨hT, hE, ⟨hH, hNm, hP, row, hB, hO⟩, hS, hHi⟩ := hI
  have hn := hH.2.2.2
  have hLB : ∀ l, 0 ≤ l → l < m 0 6 → LB (m 3) l := fun l a b => (hP.1.1 l a b).1
  have hPV := hP.2
  unfold qD_removePoint qM_removePoint
  simp (disch := omega) only [↓gR_D0, ↓gR_D1, ↓gR_D2, ↓gR_D3, ↓gR_D4, ↓gR_D5, ↓gR_D6, ↓gR_D7, ↓gR_D8, ↓gR_D9, ↓gR_D10, ↓gI_D11, ↓pV_D11, ↓isO_D, ↓gI_T0, ↓pV_T0, ↓gR_T1, ↓isO_T, ↓rd_T2, ↓wr_T2, ↓gI_U0, ↓pV_U0, ↓gR_U1, ↓isO_U, ↓rd_U2, ↓wr_U2, ↓gI_Ps0, ↓pV_Ps0, ↓gI_Ps1, ↓pV_Ps1, ↓gI_Ps2, ↓pV_Ps2, ↓gI_Ps3, ↓pV_Ps3, ↓gI_Ps4, ↓pV_Ps4, ↓isO_Ps, ↓gI_N0, ↓pV_N0, ↓gI_N1, ↓pV_N1, ↓gI_N2, ↓pV_N2, ↓gI_N3, ↓pV_N3, ↓gR_N4, ↓gR_N5, ↓isO_N, ↓rd_NL, ↓gI_NB0, ↓pV_NB0, ↓gR_NB1, ↓gR_NB2, ↓isO_NB, ↓rd_NC, ↓wr_NC, ↓ln_NC, ↓rd_NP, ↓wr_NP, ↓ln_NP, ↓gI_V0, ↓pV_V0, ↓gI_V1, ↓pV_V1, ↓gI_V2, ↓pV_V2, ↓gI_V3, ↓pV_V3, ↓gR_V4, ↓gR_V5, ↓isO_V, ↓rd_VL, ↓gI_VB0, ↓pV_VB0, ↓gR_VB1, ↓gR_VB2, ↓isO_VB, ↓rd_VC, ↓wr_VC, ↓ln_VC, ↓rd_VP, ↓wr_VP, ↓ln_VP, ↓rd_SL, ↓rd_KP, ↓wr_KP, ↓gI_H0, ↓pV_H0, ↓gI_H1, ↓pV_H1, ↓gR_H2, ↓isO_H, ↓rd_HP, ↓gI_B0, ↓pV_B0, ↓gI_B1, ↓pV_B1, ↓gR_B2, ↓gR_B3, ↓gR_B4, ↓gR_B5, ↓gR_B6, ↓gR_B7, ↓gR_B8, ↓isO_B, ↓rd_B301, ↓wr_B301, ↓ln_B301, ↓rd_B302, ↓wr_B302, ↓ln_B302, ↓rd_B303, ↓wr_B303, ↓ln_B303, ↓rd_B304, ↓wr_B304, ↓ln_B304, ↓rd_B305, ↓wr_B305, ↓ln_B305, ↓rd_B306, ↓wr_B306, ↓ln_B306, ↓rd_B307, ↓wr_B307, ↓ln_B307, ↓gR_Tv, ↓isO_Tv, ↓rd_Tv9, ↓wr_Tv9, ↓ln_Tv9, pV_D11, pV_T0, rd_T2, wr_T2, pV_U0, rd_U2, wr_U2, pV_Ps0, pV_Ps1, pV_Ps2, pV_Ps3, pV_Ps4, pV_N0, pV_N1, pV_N2, pV_N3, rd_NL, pV_NB0, rd_NC, wr_NC, rd_NP, wr_NP, pV_V0, pV_V1, pV_V2, pV_V3, rd_VL, pV_VB0, rd_VC, wr_VC, rd_VP, wr_VP, rd_SL, rd_KP, wr_KP, pV_H0, pV_H1, rd_HP, pV_B0, pV_B1, rd_B301, wr_B301, rd_B302, wr_B302, rd_B303, wr_B303, rd_B304, wr_B304, rd_B305, wr_B305, rd_B306, wr_B306, rd_B307, wr_B307, rd_Tv9, wr_Tv9, ↓isO_M, ↓gL_H, ↓pL_H, ↓gI_M1, ↓gI_M2, ↓gI_M3, ↓gI_M4, ↓gI_M5, ↓gI_M6, ↓gI_M13, ↓gI_M22, ↓gI_M23, ↓gI_M24, ↓gI_M25, ↓gI_M27, ↓gI_M28, ↓gI_M29, ↓gI_M30, ↓gI_M31, ↓gI_M32, ↓gI_M33, ↓gI_M34, ↓gI_M35, ↓gI_M40, ↓gI_M41, ↓gI_M42, ↓gI_M43, ↓pV_M1, ↓pV_M2, ↓pV_M3, ↓pV_M4, ↓pV_M5, ↓pV_M6, ↓pV_M13, ↓pV_M22, ↓pV_M23, ↓pV_M24, ↓pV_M25, ↓pV_M27, ↓pV_M28, ↓pV_M29, ↓pV_M30, ↓pV_M31, ↓pV_M32, ↓pV_M33, ↓pV_M34, ↓pV_M35, ↓pV_M40, ↓pV_M41, ↓pV_M42, ↓pV_M43, ↓gR_M0, ↓gR_M7, ↓gR_M8, ↓gR_M9, ↓gR_M10, ↓gR_M11, ↓gR_M12, ↓gR_M14, ↓gR_M15, ↓gR_M16, ↓gR_M17, ↓gR_M18, ↓gR_M19, ↓gR_M20, ↓gR_M21, ↓gR_M36, ↓gR_M37, ↓gR_M38, ↓gR_M39, ↓rd_M1, ↓rd_M2, ↓rd_M3, ↓rd_M4, ↓rd_M5, ↓rd_M6, ↓rd_M7, ↓rd_M8, ↓rd_M9, ↓rd_M10, ↓rd_M11, ↓rd_M12, ↓rd_M13, ↓rd_M14, ↓rd_M15, ↓rd_M16, ↓rd_M17, ↓rd_M18, ↓rd_M19, ↓wr_M1, ↓wr_M2, ↓wr_M3, ↓wr_M4, ↓wr_M5, ↓wr_M6, ↓wr_M7, ↓wr_M8, ↓wr_M9, ↓wr_M10, ↓wr_M11, ↓wr_M12, ↓wr_M13, ↓wr_M14, ↓wr_M15, ↓wr_M16, ↓wr_M17, ↓wr_M18, ↓wr_M19, pL_H, pV_M1, pV_M2, pV_M3, pV_M4, pV_M5, pV_M6, pV_M13, pV_M22, pV_M23, pV_M24, pV_M25, pV_M27, pV_M28, pV_M29, pV_M30, pV_M31, pV_M32, pV_M33, pV_M34, pV_M35, pV_M40, pV_M41, pV_M42, pV_M43, rd_M1, rd_M2, rd_M3, rd_M4, rd_M5, rd_M6, rd_M7, rd_M8, rd_M9, rd_M10, rd_M11, rd_M12, rd_M13, rd_M14, rd_M15, rd_M16, rd_M17, rd_M18, rd_M19, wr_M1, wr_M2, wr_M3, wr_M4, wr_M5, wr_M6, wr_M7, wr_M8, wr_M9, wr_M10, wr_M11, wr_M12, wr_M13, wr_M14, wr_M15, wr_M16, wr_M17, wr_M18, wr_M19, J_l, J_neg, J_add, J_sub, J_mul, J_lt, J_le, J_eq, J_div2, J_rem2, J_shl1, J_orp, J_or, J_and, J_shr, J_ushr, J_max, J_min, J_abs, J_b0, ↓b0_ite, ↓b0_ite2, b0_ite, bI_r, bV_r, b01_ite, ite_true, ite_false, rZ_b, K_l, J_long, M_in, D_isPoint hPV hn hLB hl hp, M_isPoint rfl rfl hn hLB hl hp]
  by_cases h1 : (0 ≤ l ∧ l < m 0 6) ∧ 0 ≤ p ∧ p < cN (m 3) l
  · rw [if_pos h1, if_pos h1]
    have hl8 : 0 ≤ l ∧ l < 8 := by omega
    have hb := hLB l h1.1.1 h1.1.2
    have hLn := isLn_now hl8
    have e1 : s (11 + 3 * l.toNat) 1 = cN (m 3) l := (hPV.2.2.2.2.1 l h1.1.1 h1.1.2).1.1
    have b1 := hb.1
    simp (disch := first | assumption | omega) only [↓gR_D0, ↓gR_D1, ↓gR_D2, ↓gR_D3, ↓gR_D4, ↓gR_D5, ↓gR_D6, ↓gR_D7, ↓gR_D8, ↓gR_D9, ↓gR_D10, ↓gI_D11, ↓pV_D11, ↓isO_D, ↓gI_T0, ↓pV_T0, ↓gR_T1, ↓isO_T, ↓rd_T2, ↓wr_T2, ↓gI_U0, ↓pV_U0, ↓gR_U1, ↓isO_U, ↓rd_U2, ↓wr_U2, ↓gI_Ps0, ↓pV_Ps0, ↓gI_Ps1, ↓pV_Ps1, ↓gI_Ps2, ↓pV_Ps2, ↓gI_Ps3, ↓pV_Ps3, ↓gI_Ps4, ↓pV_Ps4, ↓isO_Ps, ↓gI_N0, ↓pV_N0, ↓gI_N1, ↓pV_N1, ↓gI_N2, ↓pV_N2, ↓gI_N3, ↓pV_N3, ↓gR_N4, ↓gR_N5, ↓isO_N, ↓rd_NL, ↓gI_NB0, ↓pV_NB0, ↓gR_NB1, ↓gR_NB2, ↓isO_NB, ↓rd_NC, ↓wr_NC, ↓ln_NC, ↓rd_NP, ↓wr_NP, ↓ln_NP, ↓gI_V0, ↓pV_V0, ↓gI_V1, ↓pV_V1, ↓gI_V2, ↓pV_V2, ↓gI_V3, ↓pV_V3, ↓gR_V4, ↓gR_V5, ↓isO_V, ↓rd_VL, ↓gI_VB0, ↓pV_VB0, ↓gR_VB1, ↓gR_VB2, ↓isO_VB, ↓rd_VC, ↓wr_VC, ↓ln_VC, ↓rd_VP, ↓wr_VP, ↓ln_VP, ↓rd_SL, ↓rd_KP, ↓wr_KP, ↓gI_H0, ↓pV_H0, ↓gI_H1, ↓pV_H1, ↓gR_H2, ↓isO_H, ↓rd_HP, ↓gI_B0, ↓pV_B0, ↓gI_B1, ↓pV_B1, ↓gR_B2, ↓gR_B3, ↓gR_B4, ↓gR_B5, ↓gR_B6, ↓gR_B7, ↓gR_B8, ↓isO_B, ↓rd_B301, ↓wr_B301, ↓ln_B301, ↓rd_B302, ↓wr_B302, ↓ln_B302, ↓rd_B303, ↓wr_B303, ↓ln_B303, ↓rd_B304, ↓wr_B304, ↓ln_B304, ↓rd_B305, ↓wr_B305, ↓ln_B305, ↓rd_B306, ↓wr_B306, ↓ln_B306, ↓rd_B307, ↓wr_B307, ↓ln_B307, ↓gR_Tv, ↓isO_Tv, ↓rd_Tv9, ↓wr_Tv9, ↓ln_Tv9, pV_D11, pV_T0, rd_T2, wr_T2, pV_U0, rd_U2, wr_U2, pV_Ps0, pV_Ps1, pV_Ps2, pV_Ps3, pV_Ps4, pV_N0, pV_N1, pV_N2, pV_N3, rd_NL, pV_NB0, rd_NC, wr_NC, rd_NP, wr_NP, pV_V0, pV_V1, pV_V2, pV_V3, rd_VL, pV_VB0, rd_VC, wr_VC, rd_VP, wr_VP, rd_SL, rd_KP, wr_KP, pV_H0, pV_H1, rd_HP, pV_B0, pV_B1, rd_B301, wr_B301, rd_B302, wr_B302, rd_B303, wr_B303, rd_B304, wr_B304, rd_B305, wr_B305, rd_B306, wr_B306, rd_B307, wr_B307, rd_Tv9, wr_Tv9, ↓isO_L, ↓gI_L0, ↓pV_L0, ↓gI_L1, ↓pV_L1, ↓gI_L2, ↓pV_L2, ↓gI_L3, ↓pV_L3, ↓gR_L4, ↓rd_L4, ↓wr_L4, ↓gR_L5, ↓rd_L5, ↓wr_L5, pV_L0, pV_L1, pV_L2, pV_L3, rd_L4, wr_L4, rd_L5, wr_L5, ↓isO_M, ↓gL_H, ↓pL_H, ↓gI_M1, ↓gI_M2, ↓gI_M3, ↓gI_M4, ↓gI_M5, ↓gI_M6, ↓gI_M13, ↓gI_M22, ↓gI_M23, ↓gI_M24, ↓gI_M25, ↓gI_M27, ↓gI_M28, ↓gI_M29, ↓gI_M30, ↓gI_M31, ↓gI_M32, ↓gI_M33, ↓gI_M34, ↓gI_M35, ↓gI_M40, ↓gI_M41, ↓gI_M42, ↓gI_M43, ↓pV_M1, ↓pV_M2, ↓pV_M3, ↓pV_M4, ↓pV_M5, ↓pV_M6, ↓pV_M13, ↓pV_M22, ↓pV_M23, ↓pV_M24, ↓pV_M25, ↓pV_M27, ↓pV_M28, ↓pV_M29, ↓pV_M30, ↓pV_M31, ↓pV_M32, ↓pV_M33, ↓pV_M34, ↓pV_M35, ↓pV_M40, ↓pV_M41, ↓pV_M42, ↓pV_M43, ↓gR_M0, ↓gR_M7, ↓gR_M8, ↓gR_M9, ↓gR_M10, ↓gR_M11, ↓gR_M12, ↓gR_M14, ↓gR_M15, ↓gR_M16, ↓gR_M17, ↓gR_M18, ↓gR_M19, ↓gR_M20, ↓gR_M21, ↓gR_M36, ↓gR_M37, ↓gR_M38, ↓gR_M39, ↓rd_M1, ↓rd_M2, ↓rd_M3, ↓rd_M4, ↓rd_M5, ↓rd_M6, ↓rd_M7, ↓rd_M8, ↓rd_M9, ↓rd_M10, ↓rd_M11, ↓rd_M12, ↓rd_M13, ↓rd_M14, ↓rd_M15, ↓rd_M16, ↓rd_M17, ↓rd_M18, ↓rd_M19, ↓wr_M1, ↓wr_M2, ↓wr_M3, ↓wr_M4, ↓wr_M5, ↓wr_M6, ↓wr_M7, ↓wr_M8, ↓wr_M9, ↓wr_M10, ↓wr_M11, ↓wr_M12, ↓wr_M13, ↓wr_M14, ↓wr_M15, ↓wr_M16, ↓wr_M17, ↓wr_M18, ↓wr_M19, pL_H, pV_M1, pV_M2, pV_M3, pV_M4, pV_M5, pV_M6, pV_M13, pV_M22, pV_M23, pV_M24, pV_M25, pV_M27, pV_M28, pV_M29, pV_M30, pV_M31, pV_M32, pV_M33, pV_M34, pV_M35, pV_M40, pV_M41, pV_M42, pV_M43, rd_M1, rd_M2, rd_M3, rd_M4, rd_M5, rd_M6, rd_M7, rd_M8, rd_M9, rd_M10, rd_M11, rd_M12, rd_M13, rd_M14, rd_M15, rd_M16, rd_M17, rd_M18, rd_M19, wr_M1, wr_M2, wr_M3, wr_M4, wr_M5, wr_M6, wr_M7, wr_M8, wr_M9, wr_M10, wr_M11, wr_M12, wr_M13, wr_M14, wr_M15, wr_M16, wr_M17, wr_M18, wr_M19, J_l, J_neg, J_add, J_sub, J_mul, J_lt, J_le, J_eq, J_div2, J_rem2, J_shl1, J_orp, J_or, J_and, J_shr, J_ushr, J_max, J_min, J_abs, J_b0, ↓b0_ite, ↓b0_ite2, b0_ite, bI_r, bV_r, b01_ite, ite_true, ite_false, rZ_b, K_l, J_long, M_in, e1, M_oN]
    by_cases h2 : cN (m 3) l = 2
    · rw [if_pos h2, if_neg (show ¬2 < cN (m 3) l by omega)]
      exact B_keep hIk rfl rfl KeepS.refl KeepM.refl
    · rw [if_neg h2, if_pos (show 2 < cN (m 3) l by omega)]
      obtain ⟨t1, t2, t3, t4⟩ := trial_of (z := z) (g := g) (w := w) hPV hn hLB h1.1
      have hLt := isLn_310
      generalize cpL s 310 (11 + 3 * l.toNat) = s1 at t1 t2 t3 t4
      obtain ⟨s2, i1, i2, i3, i4, i5⟩ := C_dropPoint (z := z) (g := g) (w := w) (s := s1) (N := cN (m 3) l) (p := p) t2.1 (by omega) h1.2
      generalize hN : cN (m 3) l = N at *
      have key := loopI (S := Int × (Int → Int)) (fun M q => qM_removePoint_44 M y (J l) (J q.1) (hi y TM g' w' (rs (rs m 4 (cpZ (m 3) (m 4) 1784)) 3 (ru q.2 (23 * l + 2) (N - 1))))) (fun X => ∃ V, X = qM_removePoint_82 y (J l) (hi y TM g' w' (rs (rs m 4 (cpZ (m 3) (m 4) 1784)) 3 (ru V (23 * l + 2) (N - 1)))) ∧ PtI (m 3) V l (shD (cX (m 3) l) p (N - 1)) (shD (cY (m 3) l) p (N - 1))) (fun q => (p ≤ q.1 ∧ q.1 ≤ N - 1) ∧ PtI (m 3) q.2 l (shD (cX (m 3) l) p q.1) (shD (cY (m 3) l) p q.1)) (fun q => N - 1 - q.1) (by intro q hq; omega) (fun M q hq ih => by
        obtain ⟨i, V⟩ := q
        obtain ⟨⟨j1, j2⟩, hV⟩ := hq
        change p ≤ i at j1
        change i ≤ N - 1 at j2
        change PtI (m 3) V l (shD (cX (m 3) l) p i) (shD (cY (m 3) l) p i) at hV
        have en : cN (ru V (23 * l + 2) (N - 1)) l = N - 1 := by unfold cN; rw [ru_same]
        show ∃ V', qM_removePoint_44_b (qM_removePoint_44 M) y (J l) (J i) (hi y TM g' w' (rs (rs m 4 (cpZ (m 3) (m 4) 1784)) 3 (ru V (23 * l + 2) (N - 1)))) = _ ∧ _
        unfold qM_removePoint_44_b
        simp (disch := first | assumption | omega) only [↓isO_M, ↓gL_H, ↓pL_H, ↓gI_M1, ↓gI_M2, ↓gI_M3, ↓gI_M4, ↓gI_M5, ↓gI_M6, ↓gI_M13, ↓gI_M22, ↓gI_M23, ↓gI_M24, ↓gI_M25, ↓gI_M27, ↓gI_M28, ↓gI_M29, ↓gI_M30, ↓gI_M31, ↓gI_M32, ↓gI_M33, ↓gI_M34, ↓gI_M35, ↓gI_M40, ↓gI_M41, ↓gI_M42, ↓gI_M43, ↓pV_M1, ↓pV_M2, ↓pV_M3, ↓pV_M4, ↓pV_M5, ↓pV_M6, ↓pV_M13, ↓pV_M22, ↓pV_M23, ↓pV_M24, ↓pV_M25, ↓pV_M27, ↓pV_M28, ↓pV_M29, ↓pV_M30, ↓pV_M31, ↓pV_M32, ↓pV_M33, ↓pV_M34, ↓pV_M35, ↓pV_M40, ↓pV_M41, ↓pV_M42, ↓pV_M43, ↓gR_M0, ↓gR_M7, ↓gR_M8, ↓gR_M9, ↓gR_M10, ↓gR_M11, ↓gR_M12, ↓gR_M14, ↓gR_M15, ↓gR_M16, ↓gR_M17, ↓gR_M18, ↓gR_M19, ↓gR_M20, ↓gR_M21, ↓gR_M36, ↓gR_M37, ↓gR_M38, ↓gR_M39, ↓rd_M1, ↓rd_M2, ↓rd_M3, ↓rd_M4, ↓rd_M5, ↓rd_M6, ↓rd_M7, ↓rd_M8, ↓rd_M9, ↓rd_M10, ↓rd_M11, ↓rd_M12, ↓rd_M13, ↓rd_M14, ↓rd_M15, ↓rd_M16, ↓rd_M17, ↓rd_M18, ↓rd_M19, ↓wr_M1, ↓wr_M2, ↓wr_M3, ↓wr_M4, ↓wr_M5, ↓wr_M6, ↓wr_M7, ↓wr_M8, ↓wr_M9, ↓wr_M10, ↓wr_M11, ↓wr_M12, ↓wr_M13, ↓wr_M14, ↓wr_M15, ↓wr_M16, ↓wr_M17, ↓wr_M18, ↓wr_M19, pL_H, pV_M1, pV_M2, pV_M3, pV_M4, pV_M5, pV_M6, pV_M13, pV_M22, pV_M23, pV_M24, pV_M25, pV_M27, pV_M28, pV_M29, pV_M30, pV_M31, pV_M32, pV_M33, pV_M34, pV_M35, pV_M40, pV_M41, pV_M42, pV_M43, rd_M1, rd_M2, rd_M3, rd_M4, rd_M5, rd_M6, rd_M7, rd_M8, rd_M9, rd_M10, rd_M11, rd_M12, rd_M13, rd_M14, rd_M15, rd_M16, rd_M17, rd_M18, rd_M19, wr_M1, wr_M2, wr_M3, wr_M4, wr_M5, wr_M6, wr_M7, wr_M8, wr_M9, wr_M10, wr_M11, wr_M12, wr_M13, wr_M14, wr_M15, wr_M16, wr_M17, wr_M18, wr_M19, J_l, J_neg, J_add, J_sub, J_mul, J_lt, J_le, J_eq, J_div2, J_rem2, J_shl1, J_orp, J_or, J_and, J_shr, J_ushr, J_max, J_min, J_abs, J_b0, ↓b0_ite, ↓b0_ite2, b0_ite, bI_r, bV_r, b01_ite, ite_true, ite_false, rZ_b, K_l, J_long, M_in, rs_same, rs_ne, rs_rs, ru_same, ru_ne, ne_eq, M_oN, en]
        by_cases hc : i < N - 1
        · have hq := hV.2 (i + 1) (by omega) (by omega)
          have hn := PtI_pt (xx := cX V l (i + 1)) (yy := cY V l (i + 1)) hV (p := i) (by omega)
          have ex : cX (ru V (23 * l + 2) (N - 1)) l (i + 1) = cX V l (i + 1) := by unfold cX; rw [ru_ne (by omega)]
          have ey : cY (ru V (23 * l + 2) (N - 1)) l (i + 1) = cY V l (i + 1) := by unfold cY; rw [ru_ne (by omega)]
          have ep : ∀ a b, ptW (ru V (23 * l + 2) (N - 1)) l i a b = ru (ptW V l i a b) (23 * l + 2) (N - 1) := fun a b => by
            funext j
            unfold ptW ru
            by_cases c1 : j = 23 * l + 2
            · rw [if_neg (by omega), if_neg (by omega), if_pos c1, if_pos c1]
            · rw [if_neg c1, if_neg c1]
          rw [if_pos hc]
          simp (disch := first | assumption | omega) only [↓isO_M, ↓gL_H, ↓pL_H, ↓gI_M1, ↓gI_M2, ↓gI_M3, ↓gI_M4, ↓gI_M5, ↓gI_M6, ↓gI_M13, ↓gI_M22, ↓gI_M23, ↓gI_M24, ↓gI_M25, ↓gI_M27, ↓gI_M28, ↓gI_M29, ↓gI_M30, ↓gI_M31, ↓gI_M32, ↓gI_M33, ↓gI_M34, ↓gI_M35, ↓gI_M40, ↓gI_M41, ↓gI_M42, ↓gI_M43, ↓pV_M1, ↓pV_M2, ↓pV_M3, ↓pV_M4, ↓pV_M5, ↓pV_M6, ↓pV_M13, ↓pV_M22, ↓pV_M23, ↓pV_M24, ↓pV_M25, ↓pV_M27, ↓pV_M28, ↓pV_M29, ↓pV_M30, ↓pV_M31, ↓pV_M32, ↓pV_M33, ↓pV_M34, ↓pV_M35, ↓pV_M40, ↓pV_M41, ↓pV_M42, ↓pV_M43, ↓gR_M0, ↓gR_M7, ↓gR_M8, ↓gR_M9, ↓gR_M10, ↓gR_M11, ↓gR_M12, ↓gR_M14, ↓gR_M15, ↓gR_M16, ↓gR_M17, ↓gR_M18, ↓gR_M19, ↓gR_M20, ↓gR_M21, ↓gR_M36, ↓gR_M37, ↓gR_M38, ↓gR_M39, ↓rd_M1, ↓rd_M2, ↓rd_M3, ↓rd_M4, ↓rd_M5, ↓rd_M6, ↓rd_M7, ↓rd_M8, ↓rd_M9, ↓rd_M10, ↓rd_M11, ↓rd_M12, ↓rd_M13, ↓rd_M14, ↓rd_M15, ↓rd_M16, ↓rd_M17, ↓rd_M18, ↓rd_M19, ↓wr_M1, ↓wr_M2, ↓wr_M3, ↓wr_M4, ↓wr_M5, ↓wr_M6, ↓wr_M7, ↓wr_M8, ↓wr_M9, ↓wr_M10, ↓wr_M11, ↓wr_M12, ↓wr_M13, ↓wr_M14, ↓wr_M15, ↓wr_M16, ↓wr_M17, ↓wr_M18, ↓wr_M19, pL_H, pV_M1, pV_M2, pV_M3, pV_M4, pV_M5, pV_M6, pV_M13, pV_M22, pV_M23, pV_M24, pV_M25, pV_M27, pV_M28, pV_M29, pV_M30, pV_M31, pV_M32, pV_M33, pV_M34, pV_M35, pV_M40, pV_M41, pV_M42, pV_M43, rd_M1, rd_M2, rd_M3, rd_M4, rd_M5, rd_M6, rd_M7, rd_M8, rd_M9, rd_M10, rd_M11, rd_M12, rd_M13, rd_M14, rd_M15, rd_M16, rd_M17, rd_M18, rd_M19, wr_M1, wr_M2, wr_M3, wr_M4, wr_M5, wr_M6, wr_M7, wr_M8, wr_M9, wr_M10, wr_M11, wr_M12, wr_M13, wr_M14, wr_M15, wr_M16, wr_M17, wr_M18, wr_M19, J_l, J_neg, J_add, J_sub, J_mul, J_lt, J_le, J_eq, J_div2, J_rem2, J_shl1, J_orp, J_or, J_and, J_shr, J_ushr, J_max, J_min, J_abs, J_b0, ↓b0_ite, ↓b0_ite2, b0_ite, bI_r, bV_r, b01_ite, ite_true, ite_false, rZ_b, K_l, J_long, M_in, rs_same, rs_ne, rs_rs, ru_same, ru_ne, ne_eq, M_px, M_py, ex, ey, M_pt (V := ru V (23 * l + 2) (N - 1)) hl8 (show 0 ≤ i ∧ i < 10 by omega) rs_same, ep]
          refine ih (i + 1, ptW V l i (cX V l (i + 1)) (cY V l (i + 1))) ⟨⟨by show p ≤ i + 1; omega, by show i + 1 ≤ N - 1; omega⟩, ?_⟩ (by show N - 1 - (i + 1) < N - 1 - i; omega)
          show PtI (m 3) (ptW V l i (cX V l (i + 1)) (cY V l (i + 1))) l (shD (cX (m 3) l) p (i + 1)) (shD (cY (m 3) l) p (i + 1))
          rw [hq.1, hq.2] at hn
          rw [hq.1, hq.2, ← shD_s j1, ← shD_s j1]
          exact hn
        · rw [if_neg hc]
          rw [show i = N - 1 by omega] at hV
          exact ⟨V, rfl, hV⟩) (p, m 3) ⟨⟨Int.le_refl p, by show p ≤ N - 1; omega⟩, by show PtI (m 3) (m 3) l (shD (cX (m 3) l) p p) (shD (cY (m 3) l) p p); rw [shD_r, shD_r]; exact PtI_0⟩ (by show N - 1 - p < 20000; omega)
      obtain ⟨V, k1, k2⟩ := key
      have k4 := PtI_n k2
      have hrows : ∀ q, 0 ≤ q → q < N - 1 → s2 311 q = shD (cX (m 3) l) p (N - 1) q ∧ s2 312 q = shD (cY (m 3) l) p (N - 1) q := by
        intro q q1 q2
        rw [i3, i4]
        unfold shD
        by_cases c2 : p ≤ q ∧ q < N - 1
        · rw [if_pos c2, if_pos c2, if_pos c2, if_pos c2]
          exact t2.2.2.2 (q + 1) (by omega) (by omega)
        · rw [if_neg c2, if_neg c2, if_neg c2, if_neg c2]
          exact t2.2.2.2 q q1 (by omega)
      have hbnd : ∀ q, 0 ≤ q → q < N - 1 → (0 ≤ shD (cX (m 3) l) p (N - 1) q ∧ shD (cX (m 3) l) p (N - 1) q < 40) ∧ 0 ≤ shD (cY (m 3) l) p (N - 1) q ∧ shD (cY (m 3) l) p (N - 1) q < 40 := by
        intro q q1 q2
        unfold shD
        by_cases c2 : p ≤ q ∧ q < N - 1
        · rw [if_pos c2, if_pos c2]
          exact hb.2.2.2 (q + 1) (by omega) (by omega)
        · rw [if_neg c2, if_neg c2]
          exact hb.2.2.2 q q1 (by omega)
      have hLV1 := PtI_LV (s' := s2) (v := N - 1) k2 t2 (by omega) hrows (by rw [i5, ru_same]) (by rw [i5, ru_ne (by decide)]) (by rw [i5, ru_ne (by decide)])
      have hLB1 := PtI_LB (v := N - 1) k2 hb (by omega) hbnd
      obtain ⟨v3, s3, m2, d1, d2, d3⟩ := B_change2 (z := z) (y := y) (g := g) (g' := g') (w := w) (w' := w') (s1 := s2) (W1 := ru V (23 * l + 2) (N - 1)) hg0 hIk h1.1 (KeepS_trans t4 (KeepS_t fun o o1 o2 o3 => i2 o o1 o2 o3)) (fun j _ _ h => by rw [ru_ne (by omega)]; exact k2.1 j (by omega)) hLB1 hLV1 (by rw [i5, ru_ne (by decide)]; exact t3)
      have e4N : qM_of y (J l) (J 2) (hi y TM g' w' (rs m 4 (cpZ (m 3) (m 4) 1784))) = rI (J N) (hi y TM g' w' (rs m 4 (cpZ (m 3) (m 4) 1784))) := by
        rw [M_oN hl8, rs_ne (by decide), hN]
      simp (disch := first | assumption | omega) only [↓gR_D0, ↓gR_D1, ↓gR_D2, ↓gR_D3, ↓gR_D4, ↓gR_D5, ↓gR_D6, ↓gR_D7, ↓gR_D8, ↓gR_D9, ↓gR_D10, ↓gI_D11, ↓pV_D11, ↓isO_D, ↓gI_T0, ↓pV_T0, ↓gR_T1, ↓isO_T, ↓rd_T2, ↓wr_T2, ↓gI_U0, ↓pV_U0, ↓gR_U1, ↓isO_U, ↓rd_U2, ↓wr_U2, ↓gI_Ps0, ↓pV_Ps0, ↓gI_Ps1, ↓pV_Ps1, ↓gI_Ps2, ↓pV_Ps2, ↓gI_Ps3, ↓pV_Ps3, ↓gI_Ps4, ↓pV_Ps4, ↓isO_Ps, ↓gI_N0, ↓pV_N0, ↓gI_N1, ↓pV_N1, ↓gI_N2, ↓pV_N2, ↓gI_N3, ↓pV_N3, ↓gR_N4, ↓gR_N5, ↓isO_N, ↓rd_NL, ↓gI_NB0, ↓pV_NB0, ↓gR_NB1, ↓gR_NB2, ↓isO_NB, ↓rd_NC, ↓wr_NC, ↓ln_NC, ↓rd_NP, ↓wr_NP, ↓ln_NP, ↓gI_V0, ↓pV_V0, ↓gI_V1, ↓pV_V1, ↓gI_V2, ↓pV_V2, ↓gI_V3, ↓pV_V3, ↓gR_V4, ↓gR_V5, ↓isO_V, ↓rd_VL, ↓gI_VB0, ↓pV_VB0, ↓gR_VB1, ↓gR_VB2, ↓isO_VB, ↓rd_VC, ↓wr_VC, ↓ln_VC, ↓rd_VP, ↓wr_VP, ↓ln_VP, ↓rd_SL, ↓rd_KP, ↓wr_KP, ↓gI_H0, ↓pV_H0, ↓gI_H1, ↓pV_H1, ↓gR_H2, ↓isO_H, ↓rd_HP, ↓gI_B0, ↓pV_B0, ↓gI_B1, ↓pV_B1, ↓gR_B2, ↓gR_B3, ↓gR_B4, ↓gR_B5, ↓gR_B6, ↓gR_B7, ↓gR_B8, ↓isO_B, ↓rd_B301, ↓wr_B301, ↓ln_B301, ↓rd_B302, ↓wr_B302, ↓ln_B302, ↓rd_B303, ↓wr_B303, ↓ln_B303, ↓rd_B304, ↓wr_B304, ↓ln_B304, ↓rd_B305, ↓wr_B305, ↓ln_B305, ↓rd_B306, ↓wr_B306, ↓ln_B306, ↓rd_B307, ↓wr_B307, ↓ln_B307, ↓gR_Tv, ↓isO_Tv, ↓rd_Tv9, ↓wr_Tv9, ↓ln_Tv9, pV_D11, pV_T0, rd_T2, wr_T2, pV_U0, rd_U2, wr_U2, pV_Ps0, pV_Ps1, pV_Ps2, pV_Ps3, pV_Ps4, pV_N0, pV_N1, pV_N2, pV_N3, rd_NL, pV_NB0, rd_NC, wr_NC, rd_NP, wr_NP, pV_V0, pV_V1, pV_V2, pV_V3, rd_VL, pV_VB0, rd_VC, wr_VC, rd_VP, wr_VP, rd_SL, rd_KP, wr_KP, pV_H0, pV_H1, rd_HP, pV_B0, pV_B1, rd_B301, wr_B301, rd_B302, wr_B302, rd_B303, wr_B303, rd_B304, wr_B304, rd_B305, wr_B305, rd_B306, wr_B306, rd_B307, wr_B307, rd_Tv9, wr_Tv9, ↓isO_L, ↓gI_L0, ↓pV_L0, ↓gI_L1, ↓pV_L1, ↓gI_L2, ↓pV_L2, ↓gI_L3, ↓pV_L3, ↓gR_L4, ↓rd_L4, ↓wr_L4, ↓gR_L5, ↓rd_L5, ↓wr_L5, pV_L0, pV_L1, pV_L2, pV_L3, rd_L4, wr_L4, rd_L5, wr_L5, ↓isO_M, ↓gL_H, ↓pL_H, ↓gI_M1, ↓gI_M2, ↓gI_M3, ↓gI_M4, ↓gI_M5, ↓gI_M6, ↓gI_M13, ↓gI_M22, ↓gI_M23, ↓gI_M24, ↓gI_M25, ↓gI_M27, ↓gI_M28, ↓gI_M29, ↓gI_M30, ↓gI_M31, ↓gI_M32, ↓gI_M33, ↓gI_M34, ↓gI_M35, ↓gI_M40, ↓gI_M41, ↓gI_M42, ↓gI_M43, ↓pV_M1, ↓pV_M2, ↓pV_M3, ↓pV_M4, ↓pV_M5, ↓pV_M6, ↓pV_M13, ↓pV_M22, ↓pV_M23, ↓pV_M24, ↓pV_M25, ↓pV_M27, ↓pV_M28, ↓pV_M29, ↓pV_M30, ↓pV_M31, ↓pV_M32, ↓pV_M33, ↓pV_M34, ↓pV_M35, ↓pV_M40, ↓pV_M41, ↓pV_M42, ↓pV_M43, ↓gR_M0, ↓gR_M7, ↓gR_M8, ↓gR_M9, ↓gR_M10, ↓gR_M11, ↓gR_M12, ↓gR_M14, ↓gR_M15, ↓gR_M16, ↓gR_M17, ↓gR_M18, ↓gR_M19, ↓gR_M20, ↓gR_M21, ↓gR_M36, ↓gR_M37, ↓gR_M38, ↓gR_M39, ↓rd_M1, ↓rd_M2, ↓rd_M3, ↓rd_M4, ↓rd_M5, ↓rd_M6, ↓rd_M7, ↓rd_M8, ↓rd_M9, ↓rd_M10, ↓rd_M11, ↓rd_M12, ↓rd_M13, ↓rd_M14, ↓rd_M15, ↓rd_M16, ↓rd_M17, ↓rd_M18, ↓rd_M19, ↓wr_M1, ↓wr_M2, ↓wr_M3, ↓wr_M4, ↓wr_M5, ↓wr_M6, ↓wr_M7, ↓wr_M8, ↓wr_M9, ↓wr_M10, ↓wr_M11, ↓wr_M12, ↓wr_M13, ↓wr_M14, ↓wr_M15, ↓wr_M16, ↓wr_M17, ↓wr_M18, ↓wr_M19, pL_H, pV_M1, pV_M2, pV_M3, pV_M4, pV_M5, pV_M6, pV_M13, pV_M22, pV_M23, pV_M24, pV_M25, pV_M27, pV_M28, pV_M29, pV_M30, pV_M31, pV_M32, pV_M33, pV_M34, pV_M35, pV_M40, pV_M41, pV_M42, pV_M43, rd_M1, rd_M2, rd_M3, rd_M4, rd_M5, rd_M6, rd_M7, rd_M8, rd_M9, rd_M10, rd_M11, rd_M12, rd_M13, rd_M14, rd_M15, rd_M16, rd_M17, rd_M18, rd_M19, wr_M1, wr_M2, wr_M3, wr_M4, wr_M5, wr_M6, wr_M7, wr_M8, wr_M9, wr_M10, wr_M11, wr_M12, wr_M13, wr_M14, wr_M15, wr_M16, wr_M17, wr_M18, wr_M19, J_l, J_neg, J_add, J_sub, J_mul, J_lt, J_le, J_eq, J_div2, J_rem2, J_shl1, J_orp, J_or, J_and, J_shr, J_ushr, J_max, J_min, J_abs, J_b0, ↓b0_ite, ↓b0_ite2, b0_ite, bI_r, bV_r, b01_ite, ite_true, ite_false, rZ_b, K_l, J_long, M_in, rs_same, rs_ne, rs_rs, ru_same, ru_ne, ne_eq, t1, i1, d1, M_thinks, e4N, M_puts, k1]
      unfold qM_removePoint_82
      simp (disch := first | assumption | omega) only [↓isO_M, ↓gL_H, ↓pL_H, ↓gI_M1, ↓gI_M2, ↓gI_M3, ↓gI_M4, ↓gI_M5, ↓gI_M6, ↓gI_M13, ↓gI_M22, ↓gI_M23, ↓gI_M24, ↓gI_M25, ↓gI_M27, ↓gI_M28, ↓gI_M29, ↓gI_M30, ↓gI_M31, ↓gI_M32, ↓gI_M33, ↓gI_M34, ↓gI_M35, ↓gI_M40, ↓gI_M41, ↓gI_M42, ↓gI_M43, ↓pV_M1, ↓pV_M2, ↓pV_M3, ↓pV_M4, ↓pV_M5, ↓pV_M6, ↓pV_M13, ↓pV_M22, ↓pV_M23, ↓pV_M24, ↓pV_M25, ↓pV_M27, ↓pV_M28, ↓pV_M29, ↓pV_M30, ↓pV_M31, ↓pV_M32, ↓pV_M33, ↓pV_M34, ↓pV_M35, ↓pV_M40, ↓pV_M41, ↓pV_M42, ↓pV_M43, ↓gR_M0, ↓gR_M7, ↓gR_M8, ↓gR_M9, ↓gR_M10, ↓gR_M11, ↓gR_M12, ↓gR_M14, ↓gR_M15, ↓gR_M16, ↓gR_M17, ↓gR_M18, ↓gR_M19, ↓gR_M20, ↓gR_M21, ↓gR_M36, ↓gR_M37, ↓gR_M38, ↓gR_M39, ↓rd_M1, ↓rd_M2, ↓rd_M3, ↓rd_M4, ↓rd_M5, ↓rd_M6, ↓rd_M7, ↓rd_M8, ↓rd_M9, ↓rd_M10, ↓rd_M11, ↓rd_M12, ↓rd_M13, ↓rd_M14, ↓rd_M15, ↓rd_M16, ↓rd_M17, ↓rd_M18, ↓rd_M19, ↓wr_M1, ↓wr_M2, ↓wr_M3, ↓wr_M4, ↓wr_M5, ↓wr_M6, ↓wr_M7, ↓wr_M8, ↓wr_M9, ↓wr_M10, ↓wr_M11, ↓wr_M12, ↓wr_M13, ↓wr_M14, ↓wr_M15, ↓wr_M16, ↓wr_M17, ↓wr_M18, ↓wr_M19, pL_H, pV_M1, pV_M2, pV_M3, pV_M4, pV_M5, pV_M6, pV_M13, pV_M22, pV_M23, pV_M24, pV_M25, pV_M27, pV_M28, pV_M29, pV_M30, pV_M31, pV_M32, pV_M33, pV_M34, pV_M35, pV_M40, pV_M41, pV_M42, pV_M43, rd_M1, rd_M2, rd_M3, rd_M4, rd_M5, rd_M6, rd_M7, rd_M8, rd_M9, rd_M10, rd_M11, rd_M12, rd_M13, rd_M14, rd_M15, rd_M16, rd_M17, rd_M18, rd_M19, wr_M1, wr_M2, wr_M3, wr_M4, wr_M5, wr_M6, wr_M7, wr_M8, wr_M9, wr_M10, wr_M11, wr_M12, wr_M13, wr_M14, wr_M15, wr_M16, wr_M17, wr_M18, wr_M19, J_l, J_neg, J_add, J_sub, J_mul, J_lt, J_le, J_eq, J_div2, J_rem2, J_shl1, J_orp, J_or, J_and, J_shr, J_ushr, J_max, J_min, J_abs, J_b0, ↓b0_ite, ↓b0_ite2, b0_ite, bI_r, bV_r, b01_ite, ite_true, ite_false, rZ_b, K_l, J_long, M_in, d2]
      exact ⟨J v3, w', s3, m2, rfl, rfl, d3⟩
  · rw [if_neg h1, if_neg h1]
    exact B_keep hIk rfl rfl KeepS.refl KeepM.refl
/-- a row turned round, k from each end -/
def rvR (f : Int → Int) (k N : Int) : Int → Int := fun j => if 0 ≤ j ∧ j < N ∧ (j < k ∨ N - 1 - k < j) then f (N - 1 - j) else f j
theorem rvR_0 : rvR f 0 N = f := funext fun j => if_neg (by omega)
theorem rvR_s (hk : 0 ≤ k) (h : k < N - 1 - k) : ru (ru (rvR f k N) k (rvR f k N (N - 1 - k))) (N - 1 - k) (rvR f k N k) = rvR f (k + 1) N := funext fun j => by
  unfold ru rvR
  by_cases h1 : j = N - 1 - k
  · rw [if_pos h1, if_neg (by omega), if_pos (by omega), h1]
    congr 1
    omega
  · rw [if_neg h1]
    by_cases h2 : j = k
    · rw [if_pos h2, if_neg (by omega), if_pos (by omega), h2]
    · rw [if_neg h2]
      by_cases h3 : 0 ≤ j ∧ j < N ∧ (j < k ∨ N - 1 - k < j)
      · rw [if_pos h3, if_pos (by omega)]
      · rw [if_neg h3, if_neg (by omega)]
theorem C_turnRound (hN : s 310 1 = N) (hN2 : 2 ≤ N ∧ N ≤ 10) : ∃ s' k, qLn_turnRound (z + 310) (hi z TD g w s) = rV (hi z TD g w s') ∧ (∀ o, o ≠ 311 → o ≠ 312 → s' o = s o) ∧ (0 ≤ k ∧ k ≤ N ∧ N - 1 - k ≤ k ∧ k - 1 < N - 1 - (k - 1)) ∧ s' 311 = rvR (s 311) k N ∧ s' 312 = rvR (s 312) k N := by
  have ha := isLn_310
  unfold qLn_turnRound
  simp (disch := first | assumption | omega) only [↓isO_L, ↓gI_L0, ↓pV_L0, ↓gI_L1, ↓pV_L1, ↓gI_L2, ↓pV_L2, ↓gI_L3, ↓pV_L3, ↓gR_L4, ↓rd_L4, ↓wr_L4, ↓gR_L5, ↓rd_L5, ↓wr_L5, pV_L0, pV_L1, pV_L2, pV_L3, rd_L4, wr_L4, rd_L5, wr_L5, J_l, J_neg, J_add, J_sub, J_mul, J_lt, J_le, J_eq, J_div2, J_rem2, J_shl1, J_orp, J_or, J_and, J_shr, J_ushr, J_max, J_min, J_abs, J_b0, ↓b0_ite, ↓b0_ite2, b0_ite, bI_r, bV_r, b01_ite, ite_true, ite_false, rZ_b, K_l, J_long, M_in, hN]
  have key := loopI (S := Int × CT) (fun M q => qLn_turnRound_9 M (z + 310) (J (N - 1 - q.1)) (J q.1) (hi z TD g w q.2)) (fun X => ∃ u k, X = rV (hi z TD g w u) ∧ (∀ o, o ≠ 311 → o ≠ 312 → u o = s o) ∧ (0 ≤ k ∧ k ≤ N ∧ N - 1 - k ≤ k ∧ k - 1 < N - 1 - (k - 1)) ∧ u 311 = rvR (s 311) k N ∧ u 312 = rvR (s 312) k N) (fun q => (0 ≤ q.1 ∧ q.1 ≤ N ∧ q.1 - 1 < N - 1 - (q.1 - 1)) ∧ (∀ o, o ≠ 311 → o ≠ 312 → q.2 o = s o) ∧ q.2 311 = rvR (s 311) q.1 N ∧ q.2 312 = rvR (s 312) q.1 N) (fun q => N - q.1) (by intro q hq; omega) (fun M q hq ih => by
    obtain ⟨k, u⟩ := q
    obtain ⟨⟨k1, k2, k3⟩, hu, hu1, hu2⟩ := hq
    change 0 ≤ k at k1
    change k ≤ N at k2
    change k - 1 < N - 1 - (k - 1) at k3
    change ∀ o, o ≠ 311 → o ≠ 312 → u o = s o at hu
    change u 311 = rvR (s 311) k N at hu1
    change u 312 = rvR (s 312) k N at hu2
    show ∃ u' k', qLn_turnRound_9_b (qLn_turnRound_9 M) (z + 310) (J (N - 1 - k)) (J k) (hi z TD g w u) = _ ∧ _
    unfold qLn_turnRound_9_b
    by_cases hc : k < N - 1 - k
    · simp (disch := first | assumption | omega) only [↓isO_L, ↓gI_L0, ↓pV_L0, ↓gI_L1, ↓pV_L1, ↓gI_L2, ↓pV_L2, ↓gI_L3, ↓pV_L3, ↓gR_L4, ↓rd_L4, ↓wr_L4, ↓gR_L5, ↓rd_L5, ↓wr_L5, pV_L0, pV_L1, pV_L2, pV_L3, rd_L4, wr_L4, rd_L5, wr_L5, J_l, J_neg, J_add, J_sub, J_mul, J_lt, J_le, J_eq, J_div2, J_rem2, J_shl1, J_orp, J_or, J_and, J_shr, J_ushr, J_max, J_min, J_abs, J_b0, ↓b0_ite, ↓b0_ite2, b0_ite, bI_r, bV_r, b01_ite, ite_true, ite_false, rZ_b, K_l, J_long, M_in, rs_same, rs_ne, rs_rs, ru_same, ru_ne, ne_eq, if_pos]
      have e1 : ∀ q1 q2 q3 q4 : Int → Int, rs (rs (rs (rs u 311 q1) 312 q2) 311 q3) 312 q4 = rs (rs u 311 q3) 312 q4 := fun q1 q2 q3 q4 => by
        funext b
        unfold rs
        by_cases hb : b = 312
        · rw [if_pos hb, if_pos hb]
        · rw [if_neg hb, if_neg hb]
          by_cases hb2 : b = 311
          · rw [if_pos hb2, if_neg hb, if_pos hb2]
          · rw [if_neg hb2, if_neg hb2, if_neg hb, if_neg hb2]
      rw [e1, hu1, hu2, rvR_s k1 hc, rvR_s k1 hc]
      have hnext := ih (k + 1, rs (rs u 311 (rvR (s 311) (k + 1) N)) 312 (rvR (s 312) (k + 1) N)) ⟨⟨by show 0 ≤ k + 1; omega, by show k + 1 ≤ N; omega, by show k + 1 - 1 < N - 1 - (k + 1 - 1); omega⟩, fun o o1 o2 => by
        show rs (rs u 311 (rvR (s 311) (k + 1) N)) 312 (rvR (s 312) (k + 1) N) o = s o
        rw [rs_ne o2, rs_ne o1, hu o o1 o2], by
        show rs (rs u 311 (rvR (s 311) (k + 1) N)) 312 (rvR (s 312) (k + 1) N) 311 = _
        rw [rs_ne (by decide), rs_same], by
        show rs (rs u 311 (rvR (s 311) (k + 1) N)) 312 (rvR (s 312) (k + 1) N) 312 = _
        rw [rs_same]⟩ (by show N - (k + 1) < N - k; omega)
      change ∃ u' k', qLn_turnRound_9 M (z + 310) (J (N - 1 - (k + 1))) (J (k + 1)) (hi z TD g w (rs (rs u 311 (rvR (s 311) (k + 1) N)) 312 (rvR (s 312) (k + 1) N))) = _ ∧ _ at hnext
      rw [show N - 1 - (k + 1) = N - 1 - k + -1 by omega] at hnext
      exact hnext
    · simp (disch := omega) only [J_l, J_neg, J_add, J_sub, J_mul, J_lt, J_le, J_eq, J_div2, J_rem2, J_shl1, J_orp, J_or, J_and, J_shr, J_ushr, J_max, J_min, J_abs, J_b0, ↓b0_ite, ↓b0_ite2, b0_ite, bI_r, bV_r, b01_ite, ite_true, ite_false, rZ_b, K_l, J_long, M_in, if_neg]
      exact ⟨u, k, rfl, hu, ⟨k1, k2, by omega, k3⟩, hu1, hu2⟩) (0, s) ⟨⟨by show (0 : Int) ≤ 0; omega, by show 0 ≤ N; omega, by show (0 : Int) - 1 < N - 1 - (0 - 1); omega⟩, fun o _ _ => rfl, by show s 311 = rvR (s 311) 0 N; rw [rvR_0], by show s 312 = rvR (s 312) 0 N; rw [rvR_0]⟩ (by show N - 0 < 20000; omega)
  simp only [Int.sub_zero] at key
  exact key
theorem B_reverse (hg0 : GOk g z) (hI : Inv s m) (hl : -2147483648 ≤ l ∧ l < 2147483648) : Both (qD_reverse z (J l) (hi z TD g w s)) (qM_reverse y (J l) (hi y TM g' w' m)) z y g g' w w' := by
  have hIk := hI
  obtain ⟨hT, hE, ⟨hH, hNm, hP, row, hB, hO⟩, hS, hHi⟩ := hI
  have hn := hH.2.2.2
  have hLB : ∀ l, 0 ≤ l → l < m 0 6 → LB (m 3) l := fun l a b => (hP.1.1 l a b).1
  have hPV := hP.2
  unfold qD_reverse qM_reverse
  simp (disch := omega) only [↓gR_D0, ↓gR_D1, ↓gR_D2, ↓gR_D3, ↓gR_D4, ↓gR_D5, ↓gR_D6, ↓gR_D7, ↓gR_D8, ↓gR_D9, ↓gR_D10, ↓gI_D11, ↓pV_D11, ↓isO_D, ↓gI_T0, ↓pV_T0, ↓gR_T1, ↓isO_T, ↓rd_T2, ↓wr_T2, ↓gI_U0, ↓pV_U0, ↓gR_U1, ↓isO_U, ↓rd_U2, ↓wr_U2, ↓gI_Ps0, ↓pV_Ps0, ↓gI_Ps1, ↓pV_Ps1, ↓gI_Ps2, ↓pV_Ps2, ↓gI_Ps3, ↓pV_Ps3, ↓gI_Ps4, ↓pV_Ps4, ↓isO_Ps, ↓gI_N0, ↓pV_N0, ↓gI_N1, ↓pV_N1, ↓gI_N2, ↓pV_N2, ↓gI_N3, ↓pV_N3, ↓gR_N4, ↓gR_N5, ↓isO_N, ↓rd_NL, ↓gI_NB0, ↓pV_NB0, ↓gR_NB1, ↓gR_NB2, ↓isO_NB, ↓rd_NC, ↓wr_NC, ↓ln_NC, ↓rd_NP, ↓wr_NP, ↓ln_NP, ↓gI_V0, ↓pV_V0, ↓gI_V1, ↓pV_V1, ↓gI_V2, ↓pV_V2, ↓gI_V3, ↓pV_V3, ↓gR_V4, ↓gR_V5, ↓isO_V, ↓rd_VL, ↓gI_VB0, ↓pV_VB0, ↓gR_VB1, ↓gR_VB2, ↓isO_VB, ↓rd_VC, ↓wr_VC, ↓ln_VC, ↓rd_VP, ↓wr_VP, ↓ln_VP, ↓rd_SL, ↓rd_KP, ↓wr_KP, ↓gI_H0, ↓pV_H0, ↓gI_H1, ↓pV_H1, ↓gR_H2, ↓isO_H, ↓rd_HP, ↓gI_B0, ↓pV_B0, ↓gI_B1, ↓pV_B1, ↓gR_B2, ↓gR_B3, ↓gR_B4, ↓gR_B5, ↓gR_B6, ↓gR_B7, ↓gR_B8, ↓isO_B, ↓rd_B301, ↓wr_B301, ↓ln_B301, ↓rd_B302, ↓wr_B302, ↓ln_B302, ↓rd_B303, ↓wr_B303, ↓ln_B303, ↓rd_B304, ↓wr_B304, ↓ln_B304, ↓rd_B305, ↓wr_B305, ↓ln_B305, ↓rd_B306, ↓wr_B306, ↓ln_B306, ↓rd_B307, ↓wr_B307, ↓ln_B307, ↓gR_Tv, ↓isO_Tv, ↓rd_Tv9, ↓wr_Tv9, ↓ln_Tv9, pV_D11, pV_T0, rd_T2, wr_T2, pV_U0, rd_U2, wr_U2, pV_Ps0, pV_Ps1, pV_Ps2, pV_Ps3, pV_Ps4, pV_N0, pV_N1, pV_N2, pV_N3, rd_NL, pV_NB0, rd_NC, wr_NC, rd_NP, wr_NP, pV_V0, pV_V1, pV_V2, pV_V3, rd_VL, pV_VB0, rd_VC, wr_VC, rd_VP, wr_VP, rd_SL, rd_KP, wr_KP, pV_H0, pV_H1, rd_HP, pV_B0, pV_B1, rd_B301, wr_B301, rd_B302, wr_B302, rd_B303, wr_B303, rd_B304, wr_B304, rd_B305, wr_B305, rd_B306, wr_B306, rd_B307, wr_B307, rd_Tv9, wr_Tv9, ↓isO_M, ↓gL_H, ↓pL_H, ↓gI_M1, ↓gI_M2, ↓gI_M3, ↓gI_M4, ↓gI_M5, ↓gI_M6, ↓gI_M13, ↓gI_M22, ↓gI_M23, ↓gI_M24, ↓gI_M25, ↓gI_M27, ↓gI_M28, ↓gI_M29, ↓gI_M30, ↓gI_M31, ↓gI_M32, ↓gI_M33, ↓gI_M34, ↓gI_M35, ↓gI_M40, ↓gI_M41, ↓gI_M42, ↓gI_M43, ↓pV_M1, ↓pV_M2, ↓pV_M3, ↓pV_M4, ↓pV_M5, ↓pV_M6, ↓pV_M13, ↓pV_M22, ↓pV_M23, ↓pV_M24, ↓pV_M25, ↓pV_M27, ↓pV_M28, ↓pV_M29, ↓pV_M30, ↓pV_M31, ↓pV_M32, ↓pV_M33, ↓pV_M34, ↓pV_M35, ↓pV_M40, ↓pV_M41, ↓pV_M42, ↓pV_M43, ↓gR_M0, ↓gR_M7, ↓gR_M8, ↓gR_M9, ↓gR_M10, ↓gR_M11, ↓gR_M12, ↓gR_M14, ↓gR_M15, ↓gR_M16, ↓gR_M17, ↓gR_M18, ↓gR_M19, ↓gR_M20, ↓gR_M21, ↓gR_M36, ↓gR_M37, ↓gR_M38, ↓gR_M39, ↓rd_M1, ↓rd_M2, ↓rd_M3, ↓rd_M4, ↓rd_M5, ↓rd_M6, ↓rd_M7, ↓rd_M8, ↓rd_M9, ↓rd_M10, ↓rd_M11, ↓rd_M12, ↓rd_M13, ↓rd_M14, ↓rd_M15, ↓rd_M16, ↓rd_M17, ↓rd_M18, ↓rd_M19, ↓wr_M1, ↓wr_M2, ↓wr_M3, ↓wr_M4, ↓wr_M5, ↓wr_M6, ↓wr_M7, ↓wr_M8, ↓wr_M9, ↓wr_M10, ↓wr_M11, ↓wr_M12, ↓wr_M13, ↓wr_M14, ↓wr_M15, ↓wr_M16, ↓wr_M17, ↓wr_M18, ↓wr_M19, pL_H, pV_M1, pV_M2, pV_M3, pV_M4, pV_M5, pV_M6, pV_M13, pV_M22, pV_M23, pV_M24, pV_M25, pV_M27, pV_M28, pV_M29, pV_M30, pV_M31, pV_M32, pV_M33, pV_M34, pV_M35, pV_M40, pV_M41, pV_M42, pV_M43, rd_M1, rd_M2, rd_M3, rd_M4, rd_M5, rd_M6, rd_M7, rd_M8, rd_M9, rd_M10, rd_M11, rd_M12, rd_M13, rd_M14, rd_M15, rd_M16, rd_M17, rd_M18, rd_M19, wr_M1, wr_M2, wr_M3, wr_M4, wr_M5, wr_M6, wr_M7, wr_M8, wr_M9, wr_M10, wr_M11, wr_M12, wr_M13, wr_M14, wr_M15, wr_M16, wr_M17, wr_M18, wr_M19, J_l, J_neg, J_add, J_sub, J_mul, J_lt, J_le, J_eq, J_div2, J_rem2, J_shl1, J_orp, J_or, J_and, J_shr, J_ushr, J_max, J_min, J_abs, J_b0, ↓b0_ite, ↓b0_ite2, b0_ite, bI_r, bV_r, b01_ite, ite_true, ite_false, rZ_b, K_l, J_long, M_in, D_isLine hPV.2.2.2.1 hn hl, M_isLine2 rfl hn hl]
  by_cases h1 : 0 ≤ l ∧ l < m 0 6
  · rw [if_pos h1, if_pos h1]
    have hl8 : 0 ≤ l ∧ l < 8 := by omega
    have hb := hLB l h1.1 h1.2
    have hLn := isLn_now hl8
    have b1 := hb.1
    obtain ⟨t1, t2, t3, t4⟩ := trial_of (z := z) (g := g) (w := w) hPV hn hLB h1
    have hLt := isLn_310
    generalize cpL s 310 (11 + 3 * l.toNat) = s1 at t1 t2 t3 t4
    obtain ⟨s2, kk, i1, i2, i5, i3, i4⟩ := C_turnRound (z := z) (g := g) (w := w) (s := s1) (N := cN (m 3) l) t2.1 b1
    generalize hN : cN (m 3) l = N at *
    have key := loopI (S := Int × (Int → Int)) (fun M q => qM_reverse_25 M y (J l) (J (N - 1)) (J q.1) (hi y TM g' w' (rs (rs m 4 (cpZ (m 3) (m 4) 1784)) 3 q.2))) (fun X => ∃ V k, X = qM_reverse_88 y (J l) (hi y TM g' w' (rs (rs m 4 (cpZ (m 3) (m 4) 1784)) 3 V)) ∧ (0 ≤ k ∧ k ≤ N ∧ N - 1 - k ≤ k ∧ k - 1 < N - 1 - (k - 1)) ∧ PtI (m 3) V l (rvR (cX (m 3) l) k N) (rvR (cY (m 3) l) k N)) (fun q => (0 ≤ q.1 ∧ q.1 ≤ N ∧ q.1 - 1 < N - 1 - (q.1 - 1)) ∧ PtI (m 3) q.2 l (rvR (cX (m 3) l) q.1 N) (rvR (cY (m 3) l) q.1 N)) (fun q => N - q.1) (by intro q hq; omega) (fun M q hq ih => by
      obtain ⟨k, V⟩ := q
      obtain ⟨⟨k1, k2, k3⟩, hV⟩ := hq
      change 0 ≤ k at k1
      change k ≤ N at k2
      change k - 1 < N - 1 - (k - 1) at k3
      change PtI (m 3) V l (rvR (cX (m 3) l) k N) (rvR (cY (m 3) l) k N) at hV
      show ∃ V' k', qM_reverse_25_b (qM_reverse_25 M) y (J l) (J (N - 1)) (J k) (hi y TM g' w' (rs (rs m 4 (cpZ (m 3) (m 4) 1784)) 3 V)) = _ ∧ _
      unfold qM_reverse_25_b
      by_cases hc : k < N - 1 - k
      · have hq1 := hV.2 k k1 (by omega)
        have hq2 := hV.2 (N - 1 - k) (by omega) (by omega)
        have hn1 := PtI_pt (xx := cX V l (N - 1 - k)) (yy := cY V l (N - 1 - k)) hV (p := k) (by omega)
        have hn2 := PtI_pt (xx := cX V l k) (yy := cY V l k) hn1 (p := N - 1 - k) (by omega)
        simp (disch := first | assumption | omega) only [↓isO_M, ↓gL_H, ↓pL_H, ↓gI_M1, ↓gI_M2, ↓gI_M3, ↓gI_M4, ↓gI_M5, ↓gI_M6, ↓gI_M13, ↓gI_M22, ↓gI_M23, ↓gI_M24, ↓gI_M25, ↓gI_M27, ↓gI_M28, ↓gI_M29, ↓gI_M30, ↓gI_M31, ↓gI_M32, ↓gI_M33, ↓gI_M34, ↓gI_M35, ↓gI_M40, ↓gI_M41, ↓gI_M42, ↓gI_M43, ↓pV_M1, ↓pV_M2, ↓pV_M3, ↓pV_M4, ↓pV_M5, ↓pV_M6, ↓pV_M13, ↓pV_M22, ↓pV_M23, ↓pV_M24, ↓pV_M25, ↓pV_M27, ↓pV_M28, ↓pV_M29, ↓pV_M30, ↓pV_M31, ↓pV_M32, ↓pV_M33, ↓pV_M34, ↓pV_M35, ↓pV_M40, ↓pV_M41, ↓pV_M42, ↓pV_M43, ↓gR_M0, ↓gR_M7, ↓gR_M8, ↓gR_M9, ↓gR_M10, ↓gR_M11, ↓gR_M12, ↓gR_M14, ↓gR_M15, ↓gR_M16, ↓gR_M17, ↓gR_M18, ↓gR_M19, ↓gR_M20, ↓gR_M21, ↓gR_M36, ↓gR_M37, ↓gR_M38, ↓gR_M39, ↓rd_M1, ↓rd_M2, ↓rd_M3, ↓rd_M4, ↓rd_M5, ↓rd_M6, ↓rd_M7, ↓rd_M8, ↓rd_M9, ↓rd_M10, ↓rd_M11, ↓rd_M12, ↓rd_M13, ↓rd_M14, ↓rd_M15, ↓rd_M16, ↓rd_M17, ↓rd_M18, ↓rd_M19, ↓wr_M1, ↓wr_M2, ↓wr_M3, ↓wr_M4, ↓wr_M5, ↓wr_M6, ↓wr_M7, ↓wr_M8, ↓wr_M9, ↓wr_M10, ↓wr_M11, ↓wr_M12, ↓wr_M13, ↓wr_M14, ↓wr_M15, ↓wr_M16, ↓wr_M17, ↓wr_M18, ↓wr_M19, pL_H, pV_M1, pV_M2, pV_M3, pV_M4, pV_M5, pV_M6, pV_M13, pV_M22, pV_M23, pV_M24, pV_M25, pV_M27, pV_M28, pV_M29, pV_M30, pV_M31, pV_M32, pV_M33, pV_M34, pV_M35, pV_M40, pV_M41, pV_M42, pV_M43, rd_M1, rd_M2, rd_M3, rd_M4, rd_M5, rd_M6, rd_M7, rd_M8, rd_M9, rd_M10, rd_M11, rd_M12, rd_M13, rd_M14, rd_M15, rd_M16, rd_M17, rd_M18, rd_M19, wr_M1, wr_M2, wr_M3, wr_M4, wr_M5, wr_M6, wr_M7, wr_M8, wr_M9, wr_M10, wr_M11, wr_M12, wr_M13, wr_M14, wr_M15, wr_M16, wr_M17, wr_M18, wr_M19, J_l, J_neg, J_add, J_sub, J_mul, J_lt, J_le, J_eq, J_div2, J_rem2, J_shl1, J_orp, J_or, J_and, J_shr, J_ushr, J_max, J_min, J_abs, J_b0, ↓b0_ite, ↓b0_ite2, b0_ite, bI_r, bV_r, b01_ite, ite_true, ite_false, rZ_b, K_l, J_long, M_in, rs_same, rs_ne, rs_rs, ru_same, ru_ne, ne_eq, if_pos, M_px, M_py, M_pt (V := V) hl8 (show 0 ≤ k ∧ k < 10 by omega) rs_same, M_pt (V := ptW V l k (cX V l (N - 1 - k)) (cY V l (N - 1 - k))) hl8 (show 0 ≤ N - 1 - k ∧ N - 1 - k < 10 by omega) rs_same]
        refine ih (k + 1, ptW (ptW V l k (cX V l (N - 1 - k)) (cY V l (N - 1 - k))) l (N - 1 - k) (cX V l k) (cY V l k)) ⟨⟨by show 0 ≤ k + 1; omega, by show k + 1 ≤ N; omega, by show k + 1 - 1 < N - 1 - (k + 1 - 1); omega⟩, ?_⟩ (by show N - (k + 1) < N - k; omega)
        show PtI (m 3) (ptW (ptW V l k (cX V l (N - 1 - k)) (cY V l (N - 1 - k))) l (N - 1 - k) (cX V l k) (cY V l k)) l (rvR (cX (m 3) l) (k + 1) N) (rvR (cY (m 3) l) (k + 1) N)
        rw [hq1.1, hq1.2, hq2.1, hq2.2] at hn2
        rw [hq1.1, hq1.2, hq2.1, hq2.2, ← rvR_s k1 hc, ← rvR_s k1 hc]
        exact hn2
      · simp (disch := omega) only [J_l, J_neg, J_add, J_sub, J_mul, J_lt, J_le, J_eq, J_div2, J_rem2, J_shl1, J_orp, J_or, J_and, J_shr, J_ushr, J_max, J_min, J_abs, J_b0, ↓b0_ite, ↓b0_ite2, b0_ite, bI_r, bV_r, b01_ite, ite_true, ite_false, rZ_b, K_l, J_long, M_in, if_neg]
        exact ⟨V, k, rfl, ⟨k1, k2, by omega, k3⟩, hV⟩) (0, m 3) ⟨⟨by show (0 : Int) ≤ 0; omega, by show 0 ≤ N; omega, by show (0 : Int) - 1 < N - 1 - (0 - 1); omega⟩, by show PtI (m 3) (m 3) l (rvR (cX (m 3) l) 0 N) (rvR (cY (m 3) l) 0 N); rw [rvR_0, rvR_0]; exact PtI_0⟩ (by show N - 0 < 20000; omega)
    obtain ⟨V, k, e1, e2, k2⟩ := key
    have ek : k = kk := by omega
    subst ek
    have e34 : rs (rs m 4 (cpZ (m 3) (m 4) 1784)) 3 (m 3) = rs m 4 (cpZ (m 3) (m 4) 1784) := by
      have h := rs_self (s := rs m 4 (cpZ (m 3) (m 4) 1784)) (o := 3)
      rw [rs_ne (by decide)] at h
      exact h
    simp only [e34] at e1
    have k4 := PtI_n k2
    have hrows : ∀ q, 0 ≤ q → q < N → s2 311 q = rvR (cX (m 3) l) k N q ∧ s2 312 q = rvR (cY (m 3) l) k N q := by
      intro q q1 q2
      rw [i3, i4]
      unfold rvR
      by_cases c2 : 0 ≤ q ∧ q < N ∧ (q < k ∨ N - 1 - k < q)
      · rw [if_pos c2, if_pos c2, if_pos c2, if_pos c2]
        exact t2.2.2.2 (N - 1 - q) (by omega) (by omega)
      · rw [if_neg c2, if_neg c2, if_neg c2, if_neg c2]
        exact t2.2.2.2 q q1 (by omega)
    have hbnd : ∀ q, 0 ≤ q → q < N → (0 ≤ rvR (cX (m 3) l) k N q ∧ rvR (cX (m 3) l) k N q < 40) ∧ 0 ≤ rvR (cY (m 3) l) k N q ∧ rvR (cY (m 3) l) k N q < 40 := by
      intro q q1 q2
      unfold rvR
      by_cases c2 : 0 ≤ q ∧ q < N ∧ (q < k ∨ N - 1 - k < q)
      · rw [if_pos c2, if_pos c2]
        exact hb.2.2.2 (N - 1 - q) (by omega) (by omega)
      · rw [if_neg c2, if_neg c2]
        exact hb.2.2.2 q q1 (by omega)
    have f310 : s2 310 = s1 310 := i2 310 (by decide) (by decide)
    have eV : ru V (23 * l + 2) N = V := by
      funext j
      unfold ru
      by_cases hj : j = 23 * l + 2
      · rw [if_pos hj, hj]
        exact (k4.1.trans hN).symm
      · rw [if_neg hj]
    have hLV1 := PtI_LV (s' := s2) (v := N) k2 t2 (by omega) hrows (by rw [f310]; exact t2.1.trans hN) (by rw [f310]) (by rw [f310])
    have hLB1 := PtI_LB (v := N) k2 hb (by omega) hbnd
    rw [eV] at hLV1 hLB1
    obtain ⟨v3, s3, m2, d1, d2, d3⟩ := B_change2 (z := z) (y := y) (g := g) (g' := g') (w := w) (w' := w') (s1 := s2) (W1 := V) hg0 hIk h1 (KeepS_trans t4 (KeepS_t fun o o1 o2 o3 => i2 o o2 o3)) (fun j _ _ h => k2.1 j (by omega)) hLB1 hLV1 (by rw [f310]; exact t3)
    have e4N : qM_of y (J l) (J 2) (hi y TM g' w' (rs m 4 (cpZ (m 3) (m 4) 1784))) = rI (J N) (hi y TM g' w' (rs m 4 (cpZ (m 3) (m 4) 1784))) := by
      rw [M_oN hl8, rs_ne (by decide), hN]
    simp (disch := first | assumption | omega) only [↓gR_D0, ↓gR_D1, ↓gR_D2, ↓gR_D3, ↓gR_D4, ↓gR_D5, ↓gR_D6, ↓gR_D7, ↓gR_D8, ↓gR_D9, ↓gR_D10, ↓gI_D11, ↓pV_D11, ↓isO_D, ↓gI_T0, ↓pV_T0, ↓gR_T1, ↓isO_T, ↓rd_T2, ↓wr_T2, ↓gI_U0, ↓pV_U0, ↓gR_U1, ↓isO_U, ↓rd_U2, ↓wr_U2, ↓gI_Ps0, ↓pV_Ps0, ↓gI_Ps1, ↓pV_Ps1, ↓gI_Ps2, ↓pV_Ps2, ↓gI_Ps3, ↓pV_Ps3, ↓gI_Ps4, ↓pV_Ps4, ↓isO_Ps, ↓gI_N0, ↓pV_N0, ↓gI_N1, ↓pV_N1, ↓gI_N2, ↓pV_N2, ↓gI_N3, ↓pV_N3, ↓gR_N4, ↓gR_N5, ↓isO_N, ↓rd_NL, ↓gI_NB0, ↓pV_NB0, ↓gR_NB1, ↓gR_NB2, ↓isO_NB, ↓rd_NC, ↓wr_NC, ↓ln_NC, ↓rd_NP, ↓wr_NP, ↓ln_NP, ↓gI_V0, ↓pV_V0, ↓gI_V1, ↓pV_V1, ↓gI_V2, ↓pV_V2, ↓gI_V3, ↓pV_V3, ↓gR_V4, ↓gR_V5, ↓isO_V, ↓rd_VL, ↓gI_VB0, ↓pV_VB0, ↓gR_VB1, ↓gR_VB2, ↓isO_VB, ↓rd_VC, ↓wr_VC, ↓ln_VC, ↓rd_VP, ↓wr_VP, ↓ln_VP, ↓rd_SL, ↓rd_KP, ↓wr_KP, ↓gI_H0, ↓pV_H0, ↓gI_H1, ↓pV_H1, ↓gR_H2, ↓isO_H, ↓rd_HP, ↓gI_B0, ↓pV_B0, ↓gI_B1, ↓pV_B1, ↓gR_B2, ↓gR_B3, ↓gR_B4, ↓gR_B5, ↓gR_B6, ↓gR_B7, ↓gR_B8, ↓isO_B, ↓rd_B301, ↓wr_B301, ↓ln_B301, ↓rd_B302, ↓wr_B302, ↓ln_B302, ↓rd_B303, ↓wr_B303, ↓ln_B303, ↓rd_B304, ↓wr_B304, ↓ln_B304, ↓rd_B305, ↓wr_B305, ↓ln_B305, ↓rd_B306, ↓wr_B306, ↓ln_B306, ↓rd_B307, ↓wr_B307, ↓ln_B307, ↓gR_Tv, ↓isO_Tv, ↓rd_Tv9, ↓wr_Tv9, ↓ln_Tv9, pV_D11, pV_T0, rd_T2, wr_T2, pV_U0, rd_U2, wr_U2, pV_Ps0, pV_Ps1, pV_Ps2, pV_Ps3, pV_Ps4, pV_N0, pV_N1, pV_N2, pV_N3, rd_NL, pV_NB0, rd_NC, wr_NC, rd_NP, wr_NP, pV_V0, pV_V1, pV_V2, pV_V3, rd_VL, pV_VB0, rd_VC, wr_VC, rd_VP, wr_VP, rd_SL, rd_KP, wr_KP, pV_H0, pV_H1, rd_HP, pV_B0, pV_B1, rd_B301, wr_B301, rd_B302, wr_B302, rd_B303, wr_B303, rd_B304, wr_B304, rd_B305, wr_B305, rd_B306, wr_B306, rd_B307, wr_B307, rd_Tv9, wr_Tv9, ↓isO_L, ↓gI_L0, ↓pV_L0, ↓gI_L1, ↓pV_L1, ↓gI_L2, ↓pV_L2, ↓gI_L3, ↓pV_L3, ↓gR_L4, ↓rd_L4, ↓wr_L4, ↓gR_L5, ↓rd_L5, ↓wr_L5, pV_L0, pV_L1, pV_L2, pV_L3, rd_L4, wr_L4, rd_L5, wr_L5, ↓isO_M, ↓gL_H, ↓pL_H, ↓gI_M1, ↓gI_M2, ↓gI_M3, ↓gI_M4, ↓gI_M5, ↓gI_M6, ↓gI_M13, ↓gI_M22, ↓gI_M23, ↓gI_M24, ↓gI_M25, ↓gI_M27, ↓gI_M28, ↓gI_M29, ↓gI_M30, ↓gI_M31, ↓gI_M32, ↓gI_M33, ↓gI_M34, ↓gI_M35, ↓gI_M40, ↓gI_M41, ↓gI_M42, ↓gI_M43, ↓pV_M1, ↓pV_M2, ↓pV_M3, ↓pV_M4, ↓pV_M5, ↓pV_M6, ↓pV_M13, ↓pV_M22, ↓pV_M23, ↓pV_M24, ↓pV_M25, ↓pV_M27, ↓pV_M28, ↓pV_M29, ↓pV_M30, ↓pV_M31, ↓pV_M32, ↓pV_M33, ↓pV_M34, ↓pV_M35, ↓pV_M40, ↓pV_M41, ↓pV_M42, ↓pV_M43, ↓gR_M0, ↓gR_M7, ↓gR_M8, ↓gR_M9, ↓gR_M10, ↓gR_M11, ↓gR_M12, ↓gR_M14, ↓gR_M15, ↓gR_M16, ↓gR_M17, ↓gR_M18, ↓gR_M19, ↓gR_M20, ↓gR_M21, ↓gR_M36, ↓gR_M37, ↓gR_M38, ↓gR_M39, ↓rd_M1, ↓rd_M2, ↓rd_M3, ↓rd_M4, ↓rd_M5, ↓rd_M6, ↓rd_M7, ↓rd_M8, ↓rd_M9, ↓rd_M10, ↓rd_M11, ↓rd_M12, ↓rd_M13, ↓rd_M14, ↓rd_M15, ↓rd_M16, ↓rd_M17, ↓rd_M18, ↓rd_M19, ↓wr_M1, ↓wr_M2, ↓wr_M3, ↓wr_M4, ↓wr_M5, ↓wr_M6, ↓wr_M7, ↓wr_M8, ↓wr_M9, ↓wr_M10, ↓wr_M11, ↓wr_M12, ↓wr_M13, ↓wr_M14, ↓wr_M15, ↓wr_M16, ↓wr_M17, ↓wr_M18, ↓wr_M19, pL_H, pV_M1, pV_M2, pV_M3, pV_M4, pV_M5, pV_M6, pV_M13, pV_M22, pV_M23, pV_M24, pV_M25, pV_M27, pV_M28, pV_M29, pV_M30, pV_M31, pV_M32, pV_M33, pV_M34, pV_M35, pV_M40, pV_M41, pV_M42, pV_M43, rd_M1, rd_M2, rd_M3, rd_M4, rd_M5, rd_M6, rd_M7, rd_M8, rd_M9, rd_M10, rd_M11, rd_M12, rd_M13, rd_M14, rd_M15, rd_M16, rd_M17, rd_M18, rd_M19, wr_M1, wr_M2, wr_M3, wr_M4, wr_M5, wr_M6, wr_M7, wr_M8, wr_M9, wr_M10, wr_M11, wr_M12, wr_M13, wr_M14, wr_M15, wr_M16, wr_M17, wr_M18, wr_M19, J_l, J_neg, J_add, J_sub, J_mul, J_lt, J_le, J_eq, J_div2, J_rem2, J_shl1, J_orp, J_or, J_and, J_shr, J_ushr, J_max, J_min, J_abs, J_b0, ↓b0_ite, ↓b0_ite2, b0_ite, bI_r, bV_r, b01_ite, ite_true, ite_false, rZ_b, K_l, J_long, M_in, rs_same, rs_ne, rs_rs, ru_same, ru_ne, ne_eq, t1, i1, d1, M_thinks, e4N, e1]
    unfold qM_reverse_88
    simp (disch := first | assumption | omega) only [↓isO_M, ↓gL_H, ↓pL_H, ↓gI_M1, ↓gI_M2, ↓gI_M3, ↓gI_M4, ↓gI_M5, ↓gI_M6, ↓gI_M13, ↓gI_M22, ↓gI_M23, ↓gI_M24, ↓gI_M25, ↓gI_M27, ↓gI_M28, ↓gI_M29, ↓gI_M30, ↓gI_M31, ↓gI_M32, ↓gI_M33, ↓gI_M34, ↓gI_M35, ↓gI_M40, ↓gI_M41, ↓gI_M42, ↓gI_M43, ↓pV_M1, ↓pV_M2, ↓pV_M3, ↓pV_M4, ↓pV_M5, ↓pV_M6, ↓pV_M13, ↓pV_M22, ↓pV_M23, ↓pV_M24, ↓pV_M25, ↓pV_M27, ↓pV_M28, ↓pV_M29, ↓pV_M30, ↓pV_M31, ↓pV_M32, ↓pV_M33, ↓pV_M34, ↓pV_M35, ↓pV_M40, ↓pV_M41, ↓pV_M42, ↓pV_M43, ↓gR_M0, ↓gR_M7, ↓gR_M8, ↓gR_M9, ↓gR_M10, ↓gR_M11, ↓gR_M12, ↓gR_M14, ↓gR_M15, ↓gR_M16, ↓gR_M17, ↓gR_M18, ↓gR_M19, ↓gR_M20, ↓gR_M21, ↓gR_M36, ↓gR_M37, ↓gR_M38, ↓gR_M39, ↓rd_M1, ↓rd_M2, ↓rd_M3, ↓rd_M4, ↓rd_M5, ↓rd_M6, ↓rd_M7, ↓rd_M8, ↓rd_M9, ↓rd_M10, ↓rd_M11, ↓rd_M12, ↓rd_M13, ↓rd_M14, ↓rd_M15, ↓rd_M16, ↓rd_M17, ↓rd_M18, ↓rd_M19, ↓wr_M1, ↓wr_M2, ↓wr_M3, ↓wr_M4, ↓wr_M5, ↓wr_M6, ↓wr_M7, ↓wr_M8, ↓wr_M9, ↓wr_M10, ↓wr_M11, ↓wr_M12, ↓wr_M13, ↓wr_M14, ↓wr_M15, ↓wr_M16, ↓wr_M17, ↓wr_M18, ↓wr_M19, pL_H, pV_M1, pV_M2, pV_M3, pV_M4, pV_M5, pV_M6, pV_M13, pV_M22, pV_M23, pV_M24, pV_M25, pV_M27, pV_M28, pV_M29, pV_M30, pV_M31, pV_M32, pV_M33, pV_M34, pV_M35, pV_M40, pV_M41, pV_M42, pV_M43, rd_M1, rd_M2, rd_M3, rd_M4, rd_M5, rd_M6, rd_M7, rd_M8, rd_M9, rd_M10, rd_M11, rd_M12, rd_M13, rd_M14, rd_M15, rd_M16, rd_M17, rd_M18, rd_M19, wr_M1, wr_M2, wr_M3, wr_M4, wr_M5, wr_M6, wr_M7, wr_M8, wr_M9, wr_M10, wr_M11, wr_M12, wr_M13, wr_M14, wr_M15, wr_M16, wr_M17, wr_M18, wr_M19, J_l, J_neg, J_add, J_sub, J_mul, J_lt, J_le, J_eq, J_div2, J_rem2, J_shl1, J_orp, J_or, J_and, J_shr, J_ushr, J_max, J_min, J_abs, J_b0, ↓b0_ite, ↓b0_ite2, b0_ite, bI_r, bV_r, b01_ite, ite_true, ite_false, rZ_b, K_l, J_long, M_in, d2]
    exact ⟨J v3, w', s3, m2, rfl, rfl, d3⟩
  · rw [if_neg h1, if_neg h1]
    exact B_keep hIk rfl rfl KeepS.refl KeepM.refl
end EE
