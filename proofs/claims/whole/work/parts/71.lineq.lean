/-! calls that ask of lines -/
section LQ
variable {z y : Nat} {g g' : XH} {w w' : Int64} {s s' s0 s1 s2 m m' m0 m1 m2 : CT} {G W W' V W1 row row' r0 nm lo lg sn f : Int → Int} {wd hg mt c i j l n p v t k x xx yy N q o to : Int} {a b : Nat} {h : XH}
theorem now_line (hP : PlV s 6 wd hg mt n nm W) (hl : 0 ≤ l ∧ l < n) (hn : n ≤ 8) : isLn TD (11 + 3 * l.toNat) ∧ LV s (11 + 3 * l.toNat) W l := ⟨isLn_now (by omega), (hP.2.2.2.2.1 l hl.1 hl.2).1⟩
theorem B_point (hI : Inv s m) (hl : -2147483648 ≤ l ∧ l < 2147483648) (hp : -2147483648 ≤ p ∧ p < 2147483648) (hv : v = 0 ∨ v = 1) : Both (qD_point z (J l) (J p) (J v) (hi z TD g w s)) (qM_point y (J l) (J p) (J v) (hi y TM g' w' m)) z y g g' w w' := by
  have hIk := hI
  obtain ⟨hT, hE, ⟨hH, hNm, hP, row, hB, hO⟩, hS, hHi⟩ := hI
  have hn := hH.2.2.2
  have hLB : ∀ l, 0 ≤ l → l < m 0 6 → LB (m 3) l := fun l a b => (hP.1.1 l a b).1
  have hz := Bsz_of hH hP.1
  have hLI := LabI_of hP hB hO
  obtain ⟨m1, e1, l1⟩ := M_lays (y := y) (g := g') (w := w') (m := m) hH rfl rfl hP.1
  have hLM := LabM_of l1 hP.1.2.1 rfl
  have hk1 := KeepM_laid l1
  unfold qD_point qM_point
  simp (disch := omega) only [↓gR_D0, ↓gR_D1, ↓gR_D2, ↓gR_D3, ↓gR_D4, ↓gR_D5, ↓gR_D6, ↓gR_D7, ↓gR_D8, ↓gR_D9, ↓gR_D10, ↓gI_D11, ↓pV_D11, ↓isO_D, ↓gI_T0, ↓pV_T0, ↓gR_T1, ↓isO_T, ↓rd_T2, ↓wr_T2, ↓gI_U0, ↓pV_U0, ↓gR_U1, ↓isO_U, ↓rd_U2, ↓wr_U2, ↓gI_Ps0, ↓pV_Ps0, ↓gI_Ps1, ↓pV_Ps1, ↓gI_Ps2, ↓pV_Ps2, ↓gI_Ps3, ↓pV_Ps3, ↓gI_Ps4, ↓pV_Ps4, ↓isO_Ps, ↓gI_N0, ↓pV_N0, ↓gI_N1, ↓pV_N1, ↓gI_N2, ↓pV_N2, ↓gI_N3, ↓pV_N3, ↓gR_N4, ↓gR_N5, ↓isO_N, ↓rd_NL, ↓gI_NB0, ↓pV_NB0, ↓gR_NB1, ↓gR_NB2, ↓isO_NB, ↓rd_NC, ↓wr_NC, ↓ln_NC, ↓rd_NP, ↓wr_NP, ↓ln_NP, ↓gI_V0, ↓pV_V0, ↓gI_V1, ↓pV_V1, ↓gI_V2, ↓pV_V2, ↓gI_V3, ↓pV_V3, ↓gR_V4, ↓gR_V5, ↓isO_V, ↓rd_VL, ↓gI_VB0, ↓pV_VB0, ↓gR_VB1, ↓gR_VB2, ↓isO_VB, ↓rd_VC, ↓wr_VC, ↓ln_VC, ↓rd_VP, ↓wr_VP, ↓ln_VP, ↓rd_SL, ↓rd_KP, ↓wr_KP, ↓gI_H0, ↓pV_H0, ↓gI_H1, ↓pV_H1, ↓gR_H2, ↓isO_H, ↓rd_HP, ↓gI_B0, ↓pV_B0, ↓gI_B1, ↓pV_B1, ↓gR_B2, ↓gR_B3, ↓gR_B4, ↓gR_B5, ↓gR_B6, ↓gR_B7, ↓gR_B8, ↓isO_B, ↓rd_B301, ↓wr_B301, ↓ln_B301, ↓rd_B302, ↓wr_B302, ↓ln_B302, ↓rd_B303, ↓wr_B303, ↓ln_B303, ↓rd_B304, ↓wr_B304, ↓ln_B304, ↓rd_B305, ↓wr_B305, ↓ln_B305, ↓rd_B306, ↓wr_B306, ↓ln_B306, ↓rd_B307, ↓wr_B307, ↓ln_B307, ↓gR_Tv, ↓isO_Tv, ↓rd_Tv9, ↓wr_Tv9, ↓ln_Tv9, pV_D11, pV_T0, rd_T2, wr_T2, pV_U0, rd_U2, wr_U2, pV_Ps0, pV_Ps1, pV_Ps2, pV_Ps3, pV_Ps4, pV_N0, pV_N1, pV_N2, pV_N3, rd_NL, pV_NB0, rd_NC, wr_NC, rd_NP, wr_NP, pV_V0, pV_V1, pV_V2, pV_V3, rd_VL, pV_VB0, rd_VC, wr_VC, rd_VP, wr_VP, rd_SL, rd_KP, wr_KP, pV_H0, pV_H1, rd_HP, pV_B0, pV_B1, rd_B301, wr_B301, rd_B302, wr_B302, rd_B303, wr_B303, rd_B304, wr_B304, rd_B305, wr_B305, rd_B306, wr_B306, rd_B307, wr_B307, rd_Tv9, wr_Tv9, ↓isO_M, ↓gL_H, ↓pL_H, ↓gI_M1, ↓gI_M2, ↓gI_M3, ↓gI_M4, ↓gI_M5, ↓gI_M6, ↓gI_M13, ↓gI_M22, ↓gI_M23, ↓gI_M24, ↓gI_M25, ↓gI_M27, ↓gI_M28, ↓gI_M29, ↓gI_M30, ↓gI_M31, ↓gI_M32, ↓gI_M33, ↓gI_M34, ↓gI_M35, ↓gI_M40, ↓gI_M41, ↓gI_M42, ↓gI_M43, ↓pV_M1, ↓pV_M2, ↓pV_M3, ↓pV_M4, ↓pV_M5, ↓pV_M6, ↓pV_M13, ↓pV_M22, ↓pV_M23, ↓pV_M24, ↓pV_M25, ↓pV_M27, ↓pV_M28, ↓pV_M29, ↓pV_M30, ↓pV_M31, ↓pV_M32, ↓pV_M33, ↓pV_M34, ↓pV_M35, ↓pV_M40, ↓pV_M41, ↓pV_M42, ↓pV_M43, ↓gR_M0, ↓gR_M7, ↓gR_M8, ↓gR_M9, ↓gR_M10, ↓gR_M11, ↓gR_M12, ↓gR_M14, ↓gR_M15, ↓gR_M16, ↓gR_M17, ↓gR_M18, ↓gR_M19, ↓gR_M20, ↓gR_M21, ↓gR_M36, ↓gR_M37, ↓gR_M38, ↓gR_M39, ↓rd_M1, ↓rd_M2, ↓rd_M3, ↓rd_M4, ↓rd_M5, ↓rd_M6, ↓rd_M7, ↓rd_M8, ↓rd_M9, ↓rd_M10, ↓rd_M11, ↓rd_M12, ↓rd_M13, ↓rd_M14, ↓rd_M15, ↓rd_M16, ↓rd_M17, ↓rd_M18, ↓rd_M19, ↓wr_M1, ↓wr_M2, ↓wr_M3, ↓wr_M4, ↓wr_M5, ↓wr_M6, ↓wr_M7, ↓wr_M8, ↓wr_M9, ↓wr_M10, ↓wr_M11, ↓wr_M12, ↓wr_M13, ↓wr_M14, ↓wr_M15, ↓wr_M16, ↓wr_M17, ↓wr_M18, ↓wr_M19, pL_H, pV_M1, pV_M2, pV_M3, pV_M4, pV_M5, pV_M6, pV_M13, pV_M22, pV_M23, pV_M24, pV_M25, pV_M27, pV_M28, pV_M29, pV_M30, pV_M31, pV_M32, pV_M33, pV_M34, pV_M35, pV_M40, pV_M41, pV_M42, pV_M43, rd_M1, rd_M2, rd_M3, rd_M4, rd_M5, rd_M6, rd_M7, rd_M8, rd_M9, rd_M10, rd_M11, rd_M12, rd_M13, rd_M14, rd_M15, rd_M16, rd_M17, rd_M18, rd_M19, wr_M1, wr_M2, wr_M3, wr_M4, wr_M5, wr_M6, wr_M7, wr_M8, wr_M9, wr_M10, wr_M11, wr_M12, wr_M13, wr_M14, wr_M15, wr_M16, wr_M17, wr_M18, wr_M19, J_l, J_neg, J_add, J_sub, J_mul, J_lt, J_le, J_eq, J_div2, J_rem2, J_shl1, J_orp, J_or, J_and, J_shr, J_ushr, J_max, J_min, J_abs, J_b0, ↓b0_ite, ↓b0_ite2, b0_ite, bI_r, bV_r, b01_ite, ite_true, ite_false, rZ_b, K_l, J_long, M_in, D_isPoint hP.2 hn hLB hl hp, M_isPoint rfl rfl hn hLB hl hp]
  by_cases h1 : (0 ≤ l ∧ l < m 0 6) ∧ 0 ≤ p ∧ p < cN (m 3) l
  · rw [if_pos h1, if_pos h1]
    obtain ⟨hLn, hv1⟩ := now_line hP.2 h1.1 hn.2
    have b1 := (hLB l h1.1.1 h1.1.2).1
    have x := hv1.2.2.2 p h1.2.1 h1.2.2
    simp (disch := first | assumption | omega) only [↓gR_D0, ↓gR_D1, ↓gR_D2, ↓gR_D3, ↓gR_D4, ↓gR_D5, ↓gR_D6, ↓gR_D7, ↓gR_D8, ↓gR_D9, ↓gR_D10, ↓gI_D11, ↓pV_D11, ↓isO_D, ↓gI_T0, ↓pV_T0, ↓gR_T1, ↓isO_T, ↓rd_T2, ↓wr_T2, ↓gI_U0, ↓pV_U0, ↓gR_U1, ↓isO_U, ↓rd_U2, ↓wr_U2, ↓gI_Ps0, ↓pV_Ps0, ↓gI_Ps1, ↓pV_Ps1, ↓gI_Ps2, ↓pV_Ps2, ↓gI_Ps3, ↓pV_Ps3, ↓gI_Ps4, ↓pV_Ps4, ↓isO_Ps, ↓gI_N0, ↓pV_N0, ↓gI_N1, ↓pV_N1, ↓gI_N2, ↓pV_N2, ↓gI_N3, ↓pV_N3, ↓gR_N4, ↓gR_N5, ↓isO_N, ↓rd_NL, ↓gI_NB0, ↓pV_NB0, ↓gR_NB1, ↓gR_NB2, ↓isO_NB, ↓rd_NC, ↓wr_NC, ↓ln_NC, ↓rd_NP, ↓wr_NP, ↓ln_NP, ↓gI_V0, ↓pV_V0, ↓gI_V1, ↓pV_V1, ↓gI_V2, ↓pV_V2, ↓gI_V3, ↓pV_V3, ↓gR_V4, ↓gR_V5, ↓isO_V, ↓rd_VL, ↓gI_VB0, ↓pV_VB0, ↓gR_VB1, ↓gR_VB2, ↓isO_VB, ↓rd_VC, ↓wr_VC, ↓ln_VC, ↓rd_VP, ↓wr_VP, ↓ln_VP, ↓rd_SL, ↓rd_KP, ↓wr_KP, ↓gI_H0, ↓pV_H0, ↓gI_H1, ↓pV_H1, ↓gR_H2, ↓isO_H, ↓rd_HP, ↓gI_B0, ↓pV_B0, ↓gI_B1, ↓pV_B1, ↓gR_B2, ↓gR_B3, ↓gR_B4, ↓gR_B5, ↓gR_B6, ↓gR_B7, ↓gR_B8, ↓isO_B, ↓rd_B301, ↓wr_B301, ↓ln_B301, ↓rd_B302, ↓wr_B302, ↓ln_B302, ↓rd_B303, ↓wr_B303, ↓ln_B303, ↓rd_B304, ↓wr_B304, ↓ln_B304, ↓rd_B305, ↓wr_B305, ↓ln_B305, ↓rd_B306, ↓wr_B306, ↓ln_B306, ↓rd_B307, ↓wr_B307, ↓ln_B307, ↓gR_Tv, ↓isO_Tv, ↓rd_Tv9, ↓wr_Tv9, ↓ln_Tv9, pV_D11, pV_T0, rd_T2, wr_T2, pV_U0, rd_U2, wr_U2, pV_Ps0, pV_Ps1, pV_Ps2, pV_Ps3, pV_Ps4, pV_N0, pV_N1, pV_N2, pV_N3, rd_NL, pV_NB0, rd_NC, wr_NC, rd_NP, wr_NP, pV_V0, pV_V1, pV_V2, pV_V3, rd_VL, pV_VB0, rd_VC, wr_VC, rd_VP, wr_VP, rd_SL, rd_KP, wr_KP, pV_H0, pV_H1, rd_HP, pV_B0, pV_B1, rd_B301, wr_B301, rd_B302, wr_B302, rd_B303, wr_B303, rd_B304, wr_B304, rd_B305, wr_B305, rd_B306, wr_B306, rd_B307, wr_B307, rd_Tv9, wr_Tv9, ↓isO_L, ↓gI_L0, ↓pV_L0, ↓gI_L1, ↓pV_L1, ↓gI_L2, ↓pV_L2, ↓gI_L3, ↓pV_L3, ↓gR_L4, ↓rd_L4, ↓wr_L4, ↓gR_L5, ↓rd_L5, ↓wr_L5, pV_L0, pV_L1, pV_L2, pV_L3, rd_L4, wr_L4, rd_L5, wr_L5, ↓isO_M, ↓gL_H, ↓pL_H, ↓gI_M1, ↓gI_M2, ↓gI_M3, ↓gI_M4, ↓gI_M5, ↓gI_M6, ↓gI_M13, ↓gI_M22, ↓gI_M23, ↓gI_M24, ↓gI_M25, ↓gI_M27, ↓gI_M28, ↓gI_M29, ↓gI_M30, ↓gI_M31, ↓gI_M32, ↓gI_M33, ↓gI_M34, ↓gI_M35, ↓gI_M40, ↓gI_M41, ↓gI_M42, ↓gI_M43, ↓pV_M1, ↓pV_M2, ↓pV_M3, ↓pV_M4, ↓pV_M5, ↓pV_M6, ↓pV_M13, ↓pV_M22, ↓pV_M23, ↓pV_M24, ↓pV_M25, ↓pV_M27, ↓pV_M28, ↓pV_M29, ↓pV_M30, ↓pV_M31, ↓pV_M32, ↓pV_M33, ↓pV_M34, ↓pV_M35, ↓pV_M40, ↓pV_M41, ↓pV_M42, ↓pV_M43, ↓gR_M0, ↓gR_M7, ↓gR_M8, ↓gR_M9, ↓gR_M10, ↓gR_M11, ↓gR_M12, ↓gR_M14, ↓gR_M15, ↓gR_M16, ↓gR_M17, ↓gR_M18, ↓gR_M19, ↓gR_M20, ↓gR_M21, ↓gR_M36, ↓gR_M37, ↓gR_M38, ↓gR_M39, ↓rd_M1, ↓rd_M2, ↓rd_M3, ↓rd_M4, ↓rd_M5, ↓rd_M6, ↓rd_M7, ↓rd_M8, ↓rd_M9, ↓rd_M10, ↓rd_M11, ↓rd_M12, ↓rd_M13, ↓rd_M14, ↓rd_M15, ↓rd_M16, ↓rd_M17, ↓rd_M18, ↓rd_M19, ↓wr_M1, ↓wr_M2, ↓wr_M3, ↓wr_M4, ↓wr_M5, ↓wr_M6, ↓wr_M7, ↓wr_M8, ↓wr_M9, ↓wr_M10, ↓wr_M11, ↓wr_M12, ↓wr_M13, ↓wr_M14, ↓wr_M15, ↓wr_M16, ↓wr_M17, ↓wr_M18, ↓wr_M19, pL_H, pV_M1, pV_M2, pV_M3, pV_M4, pV_M5, pV_M6, pV_M13, pV_M22, pV_M23, pV_M24, pV_M25, pV_M27, pV_M28, pV_M29, pV_M30, pV_M31, pV_M32, pV_M33, pV_M34, pV_M35, pV_M40, pV_M41, pV_M42, pV_M43, rd_M1, rd_M2, rd_M3, rd_M4, rd_M5, rd_M6, rd_M7, rd_M8, rd_M9, rd_M10, rd_M11, rd_M12, rd_M13, rd_M14, rd_M15, rd_M16, rd_M17, rd_M18, rd_M19, wr_M1, wr_M2, wr_M3, wr_M4, wr_M5, wr_M6, wr_M7, wr_M8, wr_M9, wr_M10, wr_M11, wr_M12, wr_M13, wr_M14, wr_M15, wr_M16, wr_M17, wr_M18, wr_M19, J_l, J_neg, J_add, J_sub, J_mul, J_lt, J_le, J_eq, J_div2, J_rem2, J_shl1, J_orp, J_or, J_and, J_shr, J_ushr, J_max, J_min, J_abs, J_b0, ↓b0_ite, ↓b0_ite2, b0_ite, bI_r, bV_r, b01_ite, ite_true, ite_false, rZ_b, K_l, J_long, M_in, x.1, x.2, M_px, M_py]
    by_cases h2 : v = 0
    · rw [if_pos h2, if_pos h2]
      exact B_keep hIk rfl rfl KeepS.refl KeepM.refl
    · rw [if_neg h2, if_neg h2]
      exact B_keep hIk rfl rfl KeepS.refl KeepM.refl
  · rw [if_neg h1, if_neg h1]
    exact B_keep hIk rfl rfl KeepS.refl KeepM.refl
theorem B_turn (hg0 : GOk g z) (hI : Inv s m) (hl : -2147483648 ≤ l ∧ l < 2147483648) (hp : -2147483648 ≤ p ∧ p < 2147483648) : Both (qD_turn z (J l) (J p) (hi z TD g w s)) (qM_turn y (J l) (J p) (hi y TM g' w' m)) z y g g' w w' := by
  have hIk := hI
  obtain ⟨hT, hE, ⟨hH, hNm, hP, row, hB, hO⟩, hS, hHi⟩ := hI
  have hn := hH.2.2.2
  have hLB : ∀ l, 0 ≤ l → l < m 0 6 → LB (m 3) l := fun l a b => (hP.1.1 l a b).1
  have hz := Bsz_of hH hP.1
  have hLI := LabI_of hP hB hO
  obtain ⟨m1, e1, l1⟩ := M_lays (y := y) (g := g') (w := w') (m := m) hH rfl rfl hP.1
  have hLM := LabM_of l1 hP.1.2.1 rfl
  have hk1 := KeepM_laid l1
  unfold qD_turn qM_turn
  simp (disch := omega) only [↓gR_D0, ↓gR_D1, ↓gR_D2, ↓gR_D3, ↓gR_D4, ↓gR_D5, ↓gR_D6, ↓gR_D7, ↓gR_D8, ↓gR_D9, ↓gR_D10, ↓gI_D11, ↓pV_D11, ↓isO_D, ↓gI_T0, ↓pV_T0, ↓gR_T1, ↓isO_T, ↓rd_T2, ↓wr_T2, ↓gI_U0, ↓pV_U0, ↓gR_U1, ↓isO_U, ↓rd_U2, ↓wr_U2, ↓gI_Ps0, ↓pV_Ps0, ↓gI_Ps1, ↓pV_Ps1, ↓gI_Ps2, ↓pV_Ps2, ↓gI_Ps3, ↓pV_Ps3, ↓gI_Ps4, ↓pV_Ps4, ↓isO_Ps, ↓gI_N0, ↓pV_N0, ↓gI_N1, ↓pV_N1, ↓gI_N2, ↓pV_N2, ↓gI_N3, ↓pV_N3, ↓gR_N4, ↓gR_N5, ↓isO_N, ↓rd_NL, ↓gI_NB0, ↓pV_NB0, ↓gR_NB1, ↓gR_NB2, ↓isO_NB, ↓rd_NC, ↓wr_NC, ↓ln_NC, ↓rd_NP, ↓wr_NP, ↓ln_NP, ↓gI_V0, ↓pV_V0, ↓gI_V1, ↓pV_V1, ↓gI_V2, ↓pV_V2, ↓gI_V3, ↓pV_V3, ↓gR_V4, ↓gR_V5, ↓isO_V, ↓rd_VL, ↓gI_VB0, ↓pV_VB0, ↓gR_VB1, ↓gR_VB2, ↓isO_VB, ↓rd_VC, ↓wr_VC, ↓ln_VC, ↓rd_VP, ↓wr_VP, ↓ln_VP, ↓rd_SL, ↓rd_KP, ↓wr_KP, ↓gI_H0, ↓pV_H0, ↓gI_H1, ↓pV_H1, ↓gR_H2, ↓isO_H, ↓rd_HP, ↓gI_B0, ↓pV_B0, ↓gI_B1, ↓pV_B1, ↓gR_B2, ↓gR_B3, ↓gR_B4, ↓gR_B5, ↓gR_B6, ↓gR_B7, ↓gR_B8, ↓isO_B, ↓rd_B301, ↓wr_B301, ↓ln_B301, ↓rd_B302, ↓wr_B302, ↓ln_B302, ↓rd_B303, ↓wr_B303, ↓ln_B303, ↓rd_B304, ↓wr_B304, ↓ln_B304, ↓rd_B305, ↓wr_B305, ↓ln_B305, ↓rd_B306, ↓wr_B306, ↓ln_B306, ↓rd_B307, ↓wr_B307, ↓ln_B307, ↓gR_Tv, ↓isO_Tv, ↓rd_Tv9, ↓wr_Tv9, ↓ln_Tv9, pV_D11, pV_T0, rd_T2, wr_T2, pV_U0, rd_U2, wr_U2, pV_Ps0, pV_Ps1, pV_Ps2, pV_Ps3, pV_Ps4, pV_N0, pV_N1, pV_N2, pV_N3, rd_NL, pV_NB0, rd_NC, wr_NC, rd_NP, wr_NP, pV_V0, pV_V1, pV_V2, pV_V3, rd_VL, pV_VB0, rd_VC, wr_VC, rd_VP, wr_VP, rd_SL, rd_KP, wr_KP, pV_H0, pV_H1, rd_HP, pV_B0, pV_B1, rd_B301, wr_B301, rd_B302, wr_B302, rd_B303, wr_B303, rd_B304, wr_B304, rd_B305, wr_B305, rd_B306, wr_B306, rd_B307, wr_B307, rd_Tv9, wr_Tv9, ↓isO_M, ↓gL_H, ↓pL_H, ↓gI_M1, ↓gI_M2, ↓gI_M3, ↓gI_M4, ↓gI_M5, ↓gI_M6, ↓gI_M13, ↓gI_M22, ↓gI_M23, ↓gI_M24, ↓gI_M25, ↓gI_M27, ↓gI_M28, ↓gI_M29, ↓gI_M30, ↓gI_M31, ↓gI_M32, ↓gI_M33, ↓gI_M34, ↓gI_M35, ↓gI_M40, ↓gI_M41, ↓gI_M42, ↓gI_M43, ↓pV_M1, ↓pV_M2, ↓pV_M3, ↓pV_M4, ↓pV_M5, ↓pV_M6, ↓pV_M13, ↓pV_M22, ↓pV_M23, ↓pV_M24, ↓pV_M25, ↓pV_M27, ↓pV_M28, ↓pV_M29, ↓pV_M30, ↓pV_M31, ↓pV_M32, ↓pV_M33, ↓pV_M34, ↓pV_M35, ↓pV_M40, ↓pV_M41, ↓pV_M42, ↓pV_M43, ↓gR_M0, ↓gR_M7, ↓gR_M8, ↓gR_M9, ↓gR_M10, ↓gR_M11, ↓gR_M12, ↓gR_M14, ↓gR_M15, ↓gR_M16, ↓gR_M17, ↓gR_M18, ↓gR_M19, ↓gR_M20, ↓gR_M21, ↓gR_M36, ↓gR_M37, ↓gR_M38, ↓gR_M39, ↓rd_M1, ↓rd_M2, ↓rd_M3, ↓rd_M4, ↓rd_M5, ↓rd_M6, ↓rd_M7, ↓rd_M8, ↓rd_M9, ↓rd_M10, ↓rd_M11, ↓rd_M12, ↓rd_M13, ↓rd_M14, ↓rd_M15, ↓rd_M16, ↓rd_M17, ↓rd_M18, ↓rd_M19, ↓wr_M1, ↓wr_M2, ↓wr_M3, ↓wr_M4, ↓wr_M5, ↓wr_M6, ↓wr_M7, ↓wr_M8, ↓wr_M9, ↓wr_M10, ↓wr_M11, ↓wr_M12, ↓wr_M13, ↓wr_M14, ↓wr_M15, ↓wr_M16, ↓wr_M17, ↓wr_M18, ↓wr_M19, pL_H, pV_M1, pV_M2, pV_M3, pV_M4, pV_M5, pV_M6, pV_M13, pV_M22, pV_M23, pV_M24, pV_M25, pV_M27, pV_M28, pV_M29, pV_M30, pV_M31, pV_M32, pV_M33, pV_M34, pV_M35, pV_M40, pV_M41, pV_M42, pV_M43, rd_M1, rd_M2, rd_M3, rd_M4, rd_M5, rd_M6, rd_M7, rd_M8, rd_M9, rd_M10, rd_M11, rd_M12, rd_M13, rd_M14, rd_M15, rd_M16, rd_M17, rd_M18, rd_M19, wr_M1, wr_M2, wr_M3, wr_M4, wr_M5, wr_M6, wr_M7, wr_M8, wr_M9, wr_M10, wr_M11, wr_M12, wr_M13, wr_M14, wr_M15, wr_M16, wr_M17, wr_M18, wr_M19, J_l, J_neg, J_add, J_sub, J_mul, J_lt, J_le, J_eq, J_div2, J_rem2, J_shl1, J_orp, J_or, J_and, J_shr, J_ushr, J_max, J_min, J_abs, J_b0, ↓b0_ite, ↓b0_ite2, b0_ite, bI_r, bV_r, b01_ite, ite_true, ite_false, rZ_b, K_l, J_long, M_in, D_isPoint hP.2 hn hLB hl hp, M_isPoint rfl rfl hn hLB hl hp]
  by_cases h1 : (0 ≤ l ∧ l < m 0 6) ∧ 0 ≤ p ∧ p < cN (m 3) l
  · rw [if_pos h1, if_pos h1]
    obtain ⟨hLn, hv1⟩ := now_line hP.2 h1.1 hn.2
    have hG := hP.1.1 l h1.1.1 h1.1.2
    have hb := hG.1
    have b1 := hb.1
    have x1 := hv1.1
    simp (disch := first | assumption | omega) only [↓gR_D0, ↓gR_D1, ↓gR_D2, ↓gR_D3, ↓gR_D4, ↓gR_D5, ↓gR_D6, ↓gR_D7, ↓gR_D8, ↓gR_D9, ↓gR_D10, ↓gI_D11, ↓pV_D11, ↓isO_D, ↓gI_T0, ↓pV_T0, ↓gR_T1, ↓isO_T, ↓rd_T2, ↓wr_T2, ↓gI_U0, ↓pV_U0, ↓gR_U1, ↓isO_U, ↓rd_U2, ↓wr_U2, ↓gI_Ps0, ↓pV_Ps0, ↓gI_Ps1, ↓pV_Ps1, ↓gI_Ps2, ↓pV_Ps2, ↓gI_Ps3, ↓pV_Ps3, ↓gI_Ps4, ↓pV_Ps4, ↓isO_Ps, ↓gI_N0, ↓pV_N0, ↓gI_N1, ↓pV_N1, ↓gI_N2, ↓pV_N2, ↓gI_N3, ↓pV_N3, ↓gR_N4, ↓gR_N5, ↓isO_N, ↓rd_NL, ↓gI_NB0, ↓pV_NB0, ↓gR_NB1, ↓gR_NB2, ↓isO_NB, ↓rd_NC, ↓wr_NC, ↓ln_NC, ↓rd_NP, ↓wr_NP, ↓ln_NP, ↓gI_V0, ↓pV_V0, ↓gI_V1, ↓pV_V1, ↓gI_V2, ↓pV_V2, ↓gI_V3, ↓pV_V3, ↓gR_V4, ↓gR_V5, ↓isO_V, ↓rd_VL, ↓gI_VB0, ↓pV_VB0, ↓gR_VB1, ↓gR_VB2, ↓isO_VB, ↓rd_VC, ↓wr_VC, ↓ln_VC, ↓rd_VP, ↓wr_VP, ↓ln_VP, ↓rd_SL, ↓rd_KP, ↓wr_KP, ↓gI_H0, ↓pV_H0, ↓gI_H1, ↓pV_H1, ↓gR_H2, ↓isO_H, ↓rd_HP, ↓gI_B0, ↓pV_B0, ↓gI_B1, ↓pV_B1, ↓gR_B2, ↓gR_B3, ↓gR_B4, ↓gR_B5, ↓gR_B6, ↓gR_B7, ↓gR_B8, ↓isO_B, ↓rd_B301, ↓wr_B301, ↓ln_B301, ↓rd_B302, ↓wr_B302, ↓ln_B302, ↓rd_B303, ↓wr_B303, ↓ln_B303, ↓rd_B304, ↓wr_B304, ↓ln_B304, ↓rd_B305, ↓wr_B305, ↓ln_B305, ↓rd_B306, ↓wr_B306, ↓ln_B306, ↓rd_B307, ↓wr_B307, ↓ln_B307, ↓gR_Tv, ↓isO_Tv, ↓rd_Tv9, ↓wr_Tv9, ↓ln_Tv9, pV_D11, pV_T0, rd_T2, wr_T2, pV_U0, rd_U2, wr_U2, pV_Ps0, pV_Ps1, pV_Ps2, pV_Ps3, pV_Ps4, pV_N0, pV_N1, pV_N2, pV_N3, rd_NL, pV_NB0, rd_NC, wr_NC, rd_NP, wr_NP, pV_V0, pV_V1, pV_V2, pV_V3, rd_VL, pV_VB0, rd_VC, wr_VC, rd_VP, wr_VP, rd_SL, rd_KP, wr_KP, pV_H0, pV_H1, rd_HP, pV_B0, pV_B1, rd_B301, wr_B301, rd_B302, wr_B302, rd_B303, wr_B303, rd_B304, wr_B304, rd_B305, wr_B305, rd_B306, wr_B306, rd_B307, wr_B307, rd_Tv9, wr_Tv9, ↓isO_L, ↓gI_L0, ↓pV_L0, ↓gI_L1, ↓pV_L1, ↓gI_L2, ↓pV_L2, ↓gI_L3, ↓pV_L3, ↓gR_L4, ↓rd_L4, ↓wr_L4, ↓gR_L5, ↓rd_L5, ↓wr_L5, pV_L0, pV_L1, pV_L2, pV_L3, rd_L4, wr_L4, rd_L5, wr_L5, ↓isO_M, ↓gL_H, ↓pL_H, ↓gI_M1, ↓gI_M2, ↓gI_M3, ↓gI_M4, ↓gI_M5, ↓gI_M6, ↓gI_M13, ↓gI_M22, ↓gI_M23, ↓gI_M24, ↓gI_M25, ↓gI_M27, ↓gI_M28, ↓gI_M29, ↓gI_M30, ↓gI_M31, ↓gI_M32, ↓gI_M33, ↓gI_M34, ↓gI_M35, ↓gI_M40, ↓gI_M41, ↓gI_M42, ↓gI_M43, ↓pV_M1, ↓pV_M2, ↓pV_M3, ↓pV_M4, ↓pV_M5, ↓pV_M6, ↓pV_M13, ↓pV_M22, ↓pV_M23, ↓pV_M24, ↓pV_M25, ↓pV_M27, ↓pV_M28, ↓pV_M29, ↓pV_M30, ↓pV_M31, ↓pV_M32, ↓pV_M33, ↓pV_M34, ↓pV_M35, ↓pV_M40, ↓pV_M41, ↓pV_M42, ↓pV_M43, ↓gR_M0, ↓gR_M7, ↓gR_M8, ↓gR_M9, ↓gR_M10, ↓gR_M11, ↓gR_M12, ↓gR_M14, ↓gR_M15, ↓gR_M16, ↓gR_M17, ↓gR_M18, ↓gR_M19, ↓gR_M20, ↓gR_M21, ↓gR_M36, ↓gR_M37, ↓gR_M38, ↓gR_M39, ↓rd_M1, ↓rd_M2, ↓rd_M3, ↓rd_M4, ↓rd_M5, ↓rd_M6, ↓rd_M7, ↓rd_M8, ↓rd_M9, ↓rd_M10, ↓rd_M11, ↓rd_M12, ↓rd_M13, ↓rd_M14, ↓rd_M15, ↓rd_M16, ↓rd_M17, ↓rd_M18, ↓rd_M19, ↓wr_M1, ↓wr_M2, ↓wr_M3, ↓wr_M4, ↓wr_M5, ↓wr_M6, ↓wr_M7, ↓wr_M8, ↓wr_M9, ↓wr_M10, ↓wr_M11, ↓wr_M12, ↓wr_M13, ↓wr_M14, ↓wr_M15, ↓wr_M16, ↓wr_M17, ↓wr_M18, ↓wr_M19, pL_H, pV_M1, pV_M2, pV_M3, pV_M4, pV_M5, pV_M6, pV_M13, pV_M22, pV_M23, pV_M24, pV_M25, pV_M27, pV_M28, pV_M29, pV_M30, pV_M31, pV_M32, pV_M33, pV_M34, pV_M35, pV_M40, pV_M41, pV_M42, pV_M43, rd_M1, rd_M2, rd_M3, rd_M4, rd_M5, rd_M6, rd_M7, rd_M8, rd_M9, rd_M10, rd_M11, rd_M12, rd_M13, rd_M14, rd_M15, rd_M16, rd_M17, rd_M18, rd_M19, wr_M1, wr_M2, wr_M3, wr_M4, wr_M5, wr_M6, wr_M7, wr_M8, wr_M9, wr_M10, wr_M11, wr_M12, wr_M13, wr_M14, wr_M15, wr_M16, wr_M17, wr_M18, wr_M19, J_l, J_neg, J_add, J_sub, J_mul, J_lt, J_le, J_eq, J_div2, J_rem2, J_shl1, J_orp, J_or, J_and, J_shr, J_ushr, J_max, J_min, J_abs, J_b0, ↓b0_ite, ↓b0_ite2, b0_ite, bI_r, bV_r, b01_ite, ite_true, ite_false, rZ_b, K_l, J_long, M_in, x1, M_oN]
    by_cases h2 : p = 0
    · rw [if_pos h2, if_pos h2]
      exact B_keep hIk rfl rfl KeepS.refl KeepM.refl
    · rw [if_neg h2, if_neg h2]
      by_cases h3 : p = cN (m 3) l - 1
      · rw [if_pos h3, if_pos h3]
        exact B_keep hIk rfl rfl KeepS.refl KeepM.refl
      · rw [if_neg h3, if_neg h3]
        have y1 := L_turnAt (w := w) (r := p) hg0 hLn hv1 hb (by omega)
        have y2 := M_turnAt (y := y) (g := g') (w := w') (m := m) (l := l) (r := p) (by omega) hb (by omega) (hG.2.1 _ (by omega) (by omega)) (hG.2.1 _ (by omega) (by omega))
        simp (disch := first | assumption | omega) only [↓gR_D0, ↓gR_D1, ↓gR_D2, ↓gR_D3, ↓gR_D4, ↓gR_D5, ↓gR_D6, ↓gR_D7, ↓gR_D8, ↓gR_D9, ↓gR_D10, ↓gI_D11, ↓pV_D11, ↓isO_D, ↓gI_T0, ↓pV_T0, ↓gR_T1, ↓isO_T, ↓rd_T2, ↓wr_T2, ↓gI_U0, ↓pV_U0, ↓gR_U1, ↓isO_U, ↓rd_U2, ↓wr_U2, ↓gI_Ps0, ↓pV_Ps0, ↓gI_Ps1, ↓pV_Ps1, ↓gI_Ps2, ↓pV_Ps2, ↓gI_Ps3, ↓pV_Ps3, ↓gI_Ps4, ↓pV_Ps4, ↓isO_Ps, ↓gI_N0, ↓pV_N0, ↓gI_N1, ↓pV_N1, ↓gI_N2, ↓pV_N2, ↓gI_N3, ↓pV_N3, ↓gR_N4, ↓gR_N5, ↓isO_N, ↓rd_NL, ↓gI_NB0, ↓pV_NB0, ↓gR_NB1, ↓gR_NB2, ↓isO_NB, ↓rd_NC, ↓wr_NC, ↓ln_NC, ↓rd_NP, ↓wr_NP, ↓ln_NP, ↓gI_V0, ↓pV_V0, ↓gI_V1, ↓pV_V1, ↓gI_V2, ↓pV_V2, ↓gI_V3, ↓pV_V3, ↓gR_V4, ↓gR_V5, ↓isO_V, ↓rd_VL, ↓gI_VB0, ↓pV_VB0, ↓gR_VB1, ↓gR_VB2, ↓isO_VB, ↓rd_VC, ↓wr_VC, ↓ln_VC, ↓rd_VP, ↓wr_VP, ↓ln_VP, ↓rd_SL, ↓rd_KP, ↓wr_KP, ↓gI_H0, ↓pV_H0, ↓gI_H1, ↓pV_H1, ↓gR_H2, ↓isO_H, ↓rd_HP, ↓gI_B0, ↓pV_B0, ↓gI_B1, ↓pV_B1, ↓gR_B2, ↓gR_B3, ↓gR_B4, ↓gR_B5, ↓gR_B6, ↓gR_B7, ↓gR_B8, ↓isO_B, ↓rd_B301, ↓wr_B301, ↓ln_B301, ↓rd_B302, ↓wr_B302, ↓ln_B302, ↓rd_B303, ↓wr_B303, ↓ln_B303, ↓rd_B304, ↓wr_B304, ↓ln_B304, ↓rd_B305, ↓wr_B305, ↓ln_B305, ↓rd_B306, ↓wr_B306, ↓ln_B306, ↓rd_B307, ↓wr_B307, ↓ln_B307, ↓gR_Tv, ↓isO_Tv, ↓rd_Tv9, ↓wr_Tv9, ↓ln_Tv9, pV_D11, pV_T0, rd_T2, wr_T2, pV_U0, rd_U2, wr_U2, pV_Ps0, pV_Ps1, pV_Ps2, pV_Ps3, pV_Ps4, pV_N0, pV_N1, pV_N2, pV_N3, rd_NL, pV_NB0, rd_NC, wr_NC, rd_NP, wr_NP, pV_V0, pV_V1, pV_V2, pV_V3, rd_VL, pV_VB0, rd_VC, wr_VC, rd_VP, wr_VP, rd_SL, rd_KP, wr_KP, pV_H0, pV_H1, rd_HP, pV_B0, pV_B1, rd_B301, wr_B301, rd_B302, wr_B302, rd_B303, wr_B303, rd_B304, wr_B304, rd_B305, wr_B305, rd_B306, wr_B306, rd_B307, wr_B307, rd_Tv9, wr_Tv9, ↓isO_L, ↓gI_L0, ↓pV_L0, ↓gI_L1, ↓pV_L1, ↓gI_L2, ↓pV_L2, ↓gI_L3, ↓pV_L3, ↓gR_L4, ↓rd_L4, ↓wr_L4, ↓gR_L5, ↓rd_L5, ↓wr_L5, pV_L0, pV_L1, pV_L2, pV_L3, rd_L4, wr_L4, rd_L5, wr_L5, ↓isO_M, ↓gL_H, ↓pL_H, ↓gI_M1, ↓gI_M2, ↓gI_M3, ↓gI_M4, ↓gI_M5, ↓gI_M6, ↓gI_M13, ↓gI_M22, ↓gI_M23, ↓gI_M24, ↓gI_M25, ↓gI_M27, ↓gI_M28, ↓gI_M29, ↓gI_M30, ↓gI_M31, ↓gI_M32, ↓gI_M33, ↓gI_M34, ↓gI_M35, ↓gI_M40, ↓gI_M41, ↓gI_M42, ↓gI_M43, ↓pV_M1, ↓pV_M2, ↓pV_M3, ↓pV_M4, ↓pV_M5, ↓pV_M6, ↓pV_M13, ↓pV_M22, ↓pV_M23, ↓pV_M24, ↓pV_M25, ↓pV_M27, ↓pV_M28, ↓pV_M29, ↓pV_M30, ↓pV_M31, ↓pV_M32, ↓pV_M33, ↓pV_M34, ↓pV_M35, ↓pV_M40, ↓pV_M41, ↓pV_M42, ↓pV_M43, ↓gR_M0, ↓gR_M7, ↓gR_M8, ↓gR_M9, ↓gR_M10, ↓gR_M11, ↓gR_M12, ↓gR_M14, ↓gR_M15, ↓gR_M16, ↓gR_M17, ↓gR_M18, ↓gR_M19, ↓gR_M20, ↓gR_M21, ↓gR_M36, ↓gR_M37, ↓gR_M38, ↓gR_M39, ↓rd_M1, ↓rd_M2, ↓rd_M3, ↓rd_M4, ↓rd_M5, ↓rd_M6, ↓rd_M7, ↓rd_M8, ↓rd_M9, ↓rd_M10, ↓rd_M11, ↓rd_M12, ↓rd_M13, ↓rd_M14, ↓rd_M15, ↓rd_M16, ↓rd_M17, ↓rd_M18, ↓rd_M19, ↓wr_M1, ↓wr_M2, ↓wr_M3, ↓wr_M4, ↓wr_M5, ↓wr_M6, ↓wr_M7, ↓wr_M8, ↓wr_M9, ↓wr_M10, ↓wr_M11, ↓wr_M12, ↓wr_M13, ↓wr_M14, ↓wr_M15, ↓wr_M16, ↓wr_M17, ↓wr_M18, ↓wr_M19, pL_H, pV_M1, pV_M2, pV_M3, pV_M4, pV_M5, pV_M6, pV_M13, pV_M22, pV_M23, pV_M24, pV_M25, pV_M27, pV_M28, pV_M29, pV_M30, pV_M31, pV_M32, pV_M33, pV_M34, pV_M35, pV_M40, pV_M41, pV_M42, pV_M43, rd_M1, rd_M2, rd_M3, rd_M4, rd_M5, rd_M6, rd_M7, rd_M8, rd_M9, rd_M10, rd_M11, rd_M12, rd_M13, rd_M14, rd_M15, rd_M16, rd_M17, rd_M18, rd_M19, wr_M1, wr_M2, wr_M3, wr_M4, wr_M5, wr_M6, wr_M7, wr_M8, wr_M9, wr_M10, wr_M11, wr_M12, wr_M13, wr_M14, wr_M15, wr_M16, wr_M17, wr_M18, wr_M19, J_l, J_neg, J_add, J_sub, J_mul, J_lt, J_le, J_eq, J_div2, J_rem2, J_shl1, J_orp, J_or, J_and, J_shr, J_ushr, J_max, J_min, J_abs, J_b0, ↓b0_ite, ↓b0_ite2, b0_ite, bI_r, bV_r, b01_ite, ite_true, ite_false, rZ_b, K_l, J_long, M_in, y1, y2]
        exact B_keep hIk rfl rfl KeepS.refl KeepM.refl
  · rw [if_neg h1, if_neg h1]
    exact B_keep hIk rfl rfl KeepS.refl KeepM.refl
/-! turns -/
def tr (W : Int → Int) (l i : Int) : Int := trn (wy W l i) (wy W l (i + 1))
theorem tr_bd : 0 ≤ tr W l i ∨ True := Or.inr trivial
theorem tr_in : 0 ≤ tr W l i ∧ tr W l i ≤ 4 := trn_in _ _ wy_le wy_le
theorem L_tr (hg : GOk g z) (ha : isLn TD a) (hv : LV s a W l) (hb : LB W l) (hi0 : 0 ≤ i ∧ i < cN W l - 2) : qLn_turnAt (z + a) (J (i + 1)) (hi z TD g w s) = rI (J (tr W l i)) (hi z TD g w s) := by
  have := L_turnAt (w := w) (r := i + 1) hg ha hv hb (by omega)
  rw [show i + 1 - 1 = i by omega] at this
  exact this
theorem M_tr (hl : 0 ≤ l ∧ l < 8) (hG : LG (m 3) l) (hi0 : 0 ≤ i ∧ i < cN (m 3) l - 2) : qM_turnAt y (J l) (J (i + 1)) (hi y TM g w m) = rI (J (tr (m 3) l i)) (hi y TM g w m) := by
  have := M_turnAt (y := y) (g := g) (w := w) (m := m) (l := l) (r := i + 1) hl hG.1 (by omega) (hG.2.1 _ (by omega) (by omega)) (hG.2.1 _ (by omega) (by omega))
  rw [show i + 1 - 1 = i by omega] at this
  exact this
theorem L_countBends (hg : GOk g z) (ha : isLn TD a) (hv : LV s a W l) (hb : LB W l) : qLn_countBends (z + a) (hi z TD g w s) = rI (J (cnt (fun i => 0 < tr W l i) (cN W l - 2))) (hi z TD g w s) := by
  have b1 := hb.1
  have x1 := hv.1
  refine loopI (S := Int) (fun N i => qLn_countBends_4 N (z + a) (J (cnt (fun i => 0 < tr W l i) i)) (J (i + 1)) (hi z TD g w s)) (fun X => X = rI (J (cnt (fun i => 0 < tr W l i) (cN W l - 2))) (hi z TD g w s)) (fun i => 0 ≤ i ∧ i ≤ cN W l - 2) (fun i => cN W l - 2 - i) (by intro p hp; omega) (fun N i hi0 ih => ?_) 0 (by omega) (by omega)
  show qLn_countBends_4_b (qLn_countBends_4 N) (z + a) _ (J (i + 1)) (hi z TD g w s) = _
  unfold qLn_countBends_4_b
  simp (disch := first | assumption | omega) only [↓isO_L, ↓gI_L0, ↓pV_L0, ↓gI_L1, ↓pV_L1, ↓gI_L2, ↓pV_L2, ↓gI_L3, ↓pV_L3, ↓gR_L4, ↓rd_L4, ↓wr_L4, ↓gR_L5, ↓rd_L5, ↓wr_L5, pV_L0, pV_L1, pV_L2, pV_L3, rd_L4, wr_L4, rd_L5, wr_L5, J_l, J_neg, J_add, J_sub, J_mul, J_lt, J_le, J_eq, J_div2, J_rem2, J_shl1, J_orp, J_or, J_and, J_shr, J_ushr, J_max, J_min, J_abs, J_b0, ↓b0_ite, ↓b0_ite2, b0_ite, bI_r, bV_r, b01_ite, ite_true, ite_false, rZ_b, K_l, J_long, M_in, x1]
  by_cases hc : i < cN W l - 2
  · have hnext := ih (i + 1) (by omega) (by omega)
    rw [cnt_s hi0.1] at hnext
    have tb := tr_in (W := W) (l := l) (i := i)
    rw [if_pos (by omega)]
    simp (disch := first | assumption | omega) only [↓isO_L, ↓gI_L0, ↓pV_L0, ↓gI_L1, ↓pV_L1, ↓gI_L2, ↓pV_L2, ↓gI_L3, ↓pV_L3, ↓gR_L4, ↓rd_L4, ↓wr_L4, ↓gR_L5, ↓rd_L5, ↓wr_L5, pV_L0, pV_L1, pV_L2, pV_L3, rd_L4, wr_L4, rd_L5, wr_L5, J_l, J_neg, J_add, J_sub, J_mul, J_lt, J_le, J_eq, J_div2, J_rem2, J_shl1, J_orp, J_or, J_and, J_shr, J_ushr, J_max, J_min, J_abs, J_b0, ↓b0_ite, ↓b0_ite2, b0_ite, bI_r, bV_r, b01_ite, ite_true, ite_false, rZ_b, K_l, J_long, M_in, L_tr hg ha hv hb ⟨hi0.1, hc⟩]
    by_cases h0 : tr W l i = 0
    · rw [if_pos h0]
      rw [b01_neg (by omega), Int.add_zero] at hnext
      exact hnext
    · rw [if_neg h0]
      rw [b01_pos (by omega)] at hnext
      exact hnext
  · rw [if_neg (by omega), show i = cN W l - 2 by omega]
theorem L_greatestTurn (hg : GOk g z) (ha : isLn TD a) (hv : LV s a W l) (hb : LB W l) : qLn_greatestTurn (z + a) (hi z TD g w s) = rI (J (mx (tr W l) (cN W l - 2))) (hi z TD g w s) := by
  have b1 := hb.1
  have x1 := hv.1
  refine loopI (S := Int) (fun N i => qLn_greatestTurn_4 N (z + a) (J (mx (tr W l) i)) (J (i + 1)) (hi z TD g w s)) (fun X => X = rI (J (mx (tr W l) (cN W l - 2))) (hi z TD g w s)) (fun i => 0 ≤ i ∧ i ≤ cN W l - 2) (fun i => cN W l - 2 - i) (by intro p hp; omega) (fun N i hi0 ih => ?_) 0 (by omega) (by omega)
  show qLn_greatestTurn_4_b (qLn_greatestTurn_4 N) (z + a) _ (J (i + 1)) (hi z TD g w s) = _
  unfold qLn_greatestTurn_4_b
  simp (disch := first | assumption | omega) only [↓isO_L, ↓gI_L0, ↓pV_L0, ↓gI_L1, ↓pV_L1, ↓gI_L2, ↓pV_L2, ↓gI_L3, ↓pV_L3, ↓gR_L4, ↓rd_L4, ↓wr_L4, ↓gR_L5, ↓rd_L5, ↓wr_L5, pV_L0, pV_L1, pV_L2, pV_L3, rd_L4, wr_L4, rd_L5, wr_L5, J_l, J_neg, J_add, J_sub, J_mul, J_lt, J_le, J_eq, J_div2, J_rem2, J_shl1, J_orp, J_or, J_and, J_shr, J_ushr, J_max, J_min, J_abs, J_b0, ↓b0_ite, ↓b0_ite2, b0_ite, bI_r, bV_r, b01_ite, ite_true, ite_false, rZ_b, K_l, J_long, M_in, x1]
  by_cases hc : i < cN W l - 2
  · have hnext := ih (i + 1) (by omega) (by omega)
    rw [mx_s hi0.1] at hnext
    have tb := tr_in (W := W) (l := l) (i := i)
    have mb := mx_bd (f := tr W l) (b := 4) (n := i) (by omega) hi0.1 (fun i _ _ => tr_in.2)
    rw [if_pos (by omega)]
    simp (disch := first | assumption | omega) only [↓isO_L, ↓gI_L0, ↓pV_L0, ↓gI_L1, ↓pV_L1, ↓gI_L2, ↓pV_L2, ↓gI_L3, ↓pV_L3, ↓gR_L4, ↓rd_L4, ↓wr_L4, ↓gR_L5, ↓rd_L5, ↓wr_L5, pV_L0, pV_L1, pV_L2, pV_L3, rd_L4, wr_L4, rd_L5, wr_L5, J_l, J_neg, J_add, J_sub, J_mul, J_lt, J_le, J_eq, J_div2, J_rem2, J_shl1, J_orp, J_or, J_and, J_shr, J_ushr, J_max, J_min, J_abs, J_b0, ↓b0_ite, ↓b0_ite2, b0_ite, bI_r, bV_r, b01_ite, ite_true, ite_false, rZ_b, K_l, J_long, M_in, L_tr hg ha hv hb ⟨hi0.1, hc⟩]
    exact hnext
  · rw [if_neg (by omega), show i = cN W l - 2 by omega]
theorem L_sumOfTurns (hg : GOk g z) (ha : isLn TD a) (hv : LV s a W l) (hb : LB W l) : qLn_sumOfTurns (z + a) (hi z TD g w s) = rI (J (sm (tr W l) (cN W l - 2))) (hi z TD g w s) := by
  have b1 := hb.1
  have x1 := hv.1
  refine loopI (S := Int) (fun N i => qLn_sumOfTurns_4 N (z + a) (J (sm (tr W l) i)) (J (i + 1)) (hi z TD g w s)) (fun X => X = rI (J (sm (tr W l) (cN W l - 2))) (hi z TD g w s)) (fun i => 0 ≤ i ∧ i ≤ cN W l - 2) (fun i => cN W l - 2 - i) (by intro p hp; omega) (fun N i hi0 ih => ?_) 0 (by omega) (by omega)
  show qLn_sumOfTurns_4_b (qLn_sumOfTurns_4 N) (z + a) _ (J (i + 1)) (hi z TD g w s) = _
  unfold qLn_sumOfTurns_4_b
  simp (disch := first | assumption | omega) only [↓isO_L, ↓gI_L0, ↓pV_L0, ↓gI_L1, ↓pV_L1, ↓gI_L2, ↓pV_L2, ↓gI_L3, ↓pV_L3, ↓gR_L4, ↓rd_L4, ↓wr_L4, ↓gR_L5, ↓rd_L5, ↓wr_L5, pV_L0, pV_L1, pV_L2, pV_L3, rd_L4, wr_L4, rd_L5, wr_L5, J_l, J_neg, J_add, J_sub, J_mul, J_lt, J_le, J_eq, J_div2, J_rem2, J_shl1, J_orp, J_or, J_and, J_shr, J_ushr, J_max, J_min, J_abs, J_b0, ↓b0_ite, ↓b0_ite2, b0_ite, bI_r, bV_r, b01_ite, ite_true, ite_false, rZ_b, K_l, J_long, M_in, x1]
  by_cases hc : i < cN W l - 2
  · have hnext := ih (i + 1) (by omega) (by omega)
    rw [sm_s hi0.1] at hnext
    rw [if_pos (by omega)]
    simp (disch := first | assumption | omega) only [↓isO_L, ↓gI_L0, ↓pV_L0, ↓gI_L1, ↓pV_L1, ↓gI_L2, ↓pV_L2, ↓gI_L3, ↓pV_L3, ↓gR_L4, ↓rd_L4, ↓wr_L4, ↓gR_L5, ↓rd_L5, ↓wr_L5, pV_L0, pV_L1, pV_L2, pV_L3, rd_L4, wr_L4, rd_L5, wr_L5, J_l, J_neg, J_add, J_sub, J_mul, J_lt, J_le, J_eq, J_div2, J_rem2, J_shl1, J_orp, J_or, J_and, J_shr, J_ushr, J_max, J_min, J_abs, J_b0, ↓b0_ite, ↓b0_ite2, b0_ite, bI_r, bV_r, b01_ite, ite_true, ite_false, rZ_b, K_l, J_long, M_in, L_tr hg ha hv hb ⟨hi0.1, hc⟩]
    exact hnext
  · rw [if_neg (by omega), show i = cN W l - 2 by omega]
/-- the model's turns, of what kind -/
noncomputable def tK (W : Int → Int) (l v i : Int) : Int := if v = 4 then cnt (fun i => 0 < tr W l i) i else if v = 6 then sm (tr W l) i else mx (tr W l) i
theorem M_turns (hl : 0 ≤ l ∧ l < 8) (hG : LG (m 3) l) (hv : 4 ≤ v ∧ v ≤ 6) : qM_turns y (J l) (J v) (hi y TM g w m) = rI (J (tK (m 3) l v (cN (m 3) l - 2))) (hi y TM g w m) := by
  have b1 := hG.1.1
  have t0 : tK (m 3) l v 0 = 0 := by
    unfold tK
    (repeat' split) <;> rfl
  have key := loopI (S := Int) (fun N i => qM_turns_5 N y (J l) (J v) (J (tK (m 3) l v i)) (J (i + 1)) (hi y TM g w m)) (fun X => X = rI (J (tK (m 3) l v (cN (m 3) l - 2))) (hi y TM g w m)) (fun i => 0 ≤ i ∧ i ≤ cN (m 3) l - 2) (fun i => cN (m 3) l - 2 - i) (by intro p hp; omega) (fun N i hi0 ih => by
    show qM_turns_5_b (qM_turns_5 N) y (J l) (J v) _ (J (i + 1)) (hi y TM g w m) = _
    unfold qM_turns_5_b qM_turns_43
    simp (disch := first | assumption | omega) only [↓isO_M, ↓gL_H, ↓pL_H, ↓gI_M1, ↓gI_M2, ↓gI_M3, ↓gI_M4, ↓gI_M5, ↓gI_M6, ↓gI_M13, ↓gI_M22, ↓gI_M23, ↓gI_M24, ↓gI_M25, ↓gI_M27, ↓gI_M28, ↓gI_M29, ↓gI_M30, ↓gI_M31, ↓gI_M32, ↓gI_M33, ↓gI_M34, ↓gI_M35, ↓gI_M40, ↓gI_M41, ↓gI_M42, ↓gI_M43, ↓pV_M1, ↓pV_M2, ↓pV_M3, ↓pV_M4, ↓pV_M5, ↓pV_M6, ↓pV_M13, ↓pV_M22, ↓pV_M23, ↓pV_M24, ↓pV_M25, ↓pV_M27, ↓pV_M28, ↓pV_M29, ↓pV_M30, ↓pV_M31, ↓pV_M32, ↓pV_M33, ↓pV_M34, ↓pV_M35, ↓pV_M40, ↓pV_M41, ↓pV_M42, ↓pV_M43, ↓gR_M0, ↓gR_M7, ↓gR_M8, ↓gR_M9, ↓gR_M10, ↓gR_M11, ↓gR_M12, ↓gR_M14, ↓gR_M15, ↓gR_M16, ↓gR_M17, ↓gR_M18, ↓gR_M19, ↓gR_M20, ↓gR_M21, ↓gR_M36, ↓gR_M37, ↓gR_M38, ↓gR_M39, ↓rd_M1, ↓rd_M2, ↓rd_M3, ↓rd_M4, ↓rd_M5, ↓rd_M6, ↓rd_M7, ↓rd_M8, ↓rd_M9, ↓rd_M10, ↓rd_M11, ↓rd_M12, ↓rd_M13, ↓rd_M14, ↓rd_M15, ↓rd_M16, ↓rd_M17, ↓rd_M18, ↓rd_M19, ↓wr_M1, ↓wr_M2, ↓wr_M3, ↓wr_M4, ↓wr_M5, ↓wr_M6, ↓wr_M7, ↓wr_M8, ↓wr_M9, ↓wr_M10, ↓wr_M11, ↓wr_M12, ↓wr_M13, ↓wr_M14, ↓wr_M15, ↓wr_M16, ↓wr_M17, ↓wr_M18, ↓wr_M19, pL_H, pV_M1, pV_M2, pV_M3, pV_M4, pV_M5, pV_M6, pV_M13, pV_M22, pV_M23, pV_M24, pV_M25, pV_M27, pV_M28, pV_M29, pV_M30, pV_M31, pV_M32, pV_M33, pV_M34, pV_M35, pV_M40, pV_M41, pV_M42, pV_M43, rd_M1, rd_M2, rd_M3, rd_M4, rd_M5, rd_M6, rd_M7, rd_M8, rd_M9, rd_M10, rd_M11, rd_M12, rd_M13, rd_M14, rd_M15, rd_M16, rd_M17, rd_M18, rd_M19, wr_M1, wr_M2, wr_M3, wr_M4, wr_M5, wr_M6, wr_M7, wr_M8, wr_M9, wr_M10, wr_M11, wr_M12, wr_M13, wr_M14, wr_M15, wr_M16, wr_M17, wr_M18, wr_M19, J_l, J_neg, J_add, J_sub, J_mul, J_lt, J_le, J_eq, J_div2, J_rem2, J_shl1, J_orp, J_or, J_and, J_shr, J_ushr, J_max, J_min, J_abs, J_b0, ↓b0_ite, ↓b0_ite2, b0_ite, bI_r, bV_r, b01_ite, ite_true, ite_false, rZ_b, K_l, J_long, M_in, M_oN]
    by_cases hc : i < cN (m 3) l - 2
    · have hnext := ih (i + 1) (by omega) (by omega)
      have tb := tr_in (W := m 3) (l := l) (i := i)
      have mb := mx_bd (f := tr (m 3) l) (b := 4) (n := i) (by omega) hi0.1 (fun i _ _ => tr_in.2)
      rw [if_pos (by omega)]
      simp (disch := first | assumption | omega) only [↓isO_M, ↓gL_H, ↓pL_H, ↓gI_M1, ↓gI_M2, ↓gI_M3, ↓gI_M4, ↓gI_M5, ↓gI_M6, ↓gI_M13, ↓gI_M22, ↓gI_M23, ↓gI_M24, ↓gI_M25, ↓gI_M27, ↓gI_M28, ↓gI_M29, ↓gI_M30, ↓gI_M31, ↓gI_M32, ↓gI_M33, ↓gI_M34, ↓gI_M35, ↓gI_M40, ↓gI_M41, ↓gI_M42, ↓gI_M43, ↓pV_M1, ↓pV_M2, ↓pV_M3, ↓pV_M4, ↓pV_M5, ↓pV_M6, ↓pV_M13, ↓pV_M22, ↓pV_M23, ↓pV_M24, ↓pV_M25, ↓pV_M27, ↓pV_M28, ↓pV_M29, ↓pV_M30, ↓pV_M31, ↓pV_M32, ↓pV_M33, ↓pV_M34, ↓pV_M35, ↓pV_M40, ↓pV_M41, ↓pV_M42, ↓pV_M43, ↓gR_M0, ↓gR_M7, ↓gR_M8, ↓gR_M9, ↓gR_M10, ↓gR_M11, ↓gR_M12, ↓gR_M14, ↓gR_M15, ↓gR_M16, ↓gR_M17, ↓gR_M18, ↓gR_M19, ↓gR_M20, ↓gR_M21, ↓gR_M36, ↓gR_M37, ↓gR_M38, ↓gR_M39, ↓rd_M1, ↓rd_M2, ↓rd_M3, ↓rd_M4, ↓rd_M5, ↓rd_M6, ↓rd_M7, ↓rd_M8, ↓rd_M9, ↓rd_M10, ↓rd_M11, ↓rd_M12, ↓rd_M13, ↓rd_M14, ↓rd_M15, ↓rd_M16, ↓rd_M17, ↓rd_M18, ↓rd_M19, ↓wr_M1, ↓wr_M2, ↓wr_M3, ↓wr_M4, ↓wr_M5, ↓wr_M6, ↓wr_M7, ↓wr_M8, ↓wr_M9, ↓wr_M10, ↓wr_M11, ↓wr_M12, ↓wr_M13, ↓wr_M14, ↓wr_M15, ↓wr_M16, ↓wr_M17, ↓wr_M18, ↓wr_M19, pL_H, pV_M1, pV_M2, pV_M3, pV_M4, pV_M5, pV_M6, pV_M13, pV_M22, pV_M23, pV_M24, pV_M25, pV_M27, pV_M28, pV_M29, pV_M30, pV_M31, pV_M32, pV_M33, pV_M34, pV_M35, pV_M40, pV_M41, pV_M42, pV_M43, rd_M1, rd_M2, rd_M3, rd_M4, rd_M5, rd_M6, rd_M7, rd_M8, rd_M9, rd_M10, rd_M11, rd_M12, rd_M13, rd_M14, rd_M15, rd_M16, rd_M17, rd_M18, rd_M19, wr_M1, wr_M2, wr_M3, wr_M4, wr_M5, wr_M6, wr_M7, wr_M8, wr_M9, wr_M10, wr_M11, wr_M12, wr_M13, wr_M14, wr_M15, wr_M16, wr_M17, wr_M18, wr_M19, J_l, J_neg, J_add, J_sub, J_mul, J_lt, J_le, J_eq, J_div2, J_rem2, J_shl1, J_orp, J_or, J_and, J_shr, J_ushr, J_max, J_min, J_abs, J_b0, ↓b0_ite, ↓b0_ite2, b0_ite, bI_r, bV_r, b01_ite, ite_true, ite_false, rZ_b, K_l, J_long, M_in, M_tr hl hG ⟨hi0.1, hc⟩]
      unfold tK at hnext ⊢
      by_cases h4 : v = 4
      · rw [if_pos h4]
        rw [if_pos h4, cnt_s hi0.1] at hnext
        rw [if_pos h4]
        by_cases h0 : 0 < tr (m 3) l i
        · rw [if_pos h0]
          rw [b01_pos h0] at hnext
          exact hnext
        · rw [if_neg h0]
          rw [b01_neg h0] at hnext
          exact hnext
      · rw [if_neg h4] at hnext ⊢
        rw [if_neg h4]
        by_cases h6 : v = 6
        · rw [if_pos h6] at hnext ⊢
          rw [if_pos h6]
          rw [sm_s hi0.1] at hnext
          exact hnext
        · rw [if_neg h6] at hnext ⊢
          rw [if_neg h6]
          rw [mx_s hi0.1] at hnext
          simp (disch := first | assumption | omega) only [J_l, J_neg, J_add, J_sub, J_mul, J_lt, J_le, J_eq, J_div2, J_rem2, J_shl1, J_orp, J_or, J_and, J_shr, J_ushr, J_max, J_min, J_abs, J_b0, ↓b0_ite, ↓b0_ite2, b0_ite, bI_r, bV_r, b01_ite, ite_true, ite_false, rZ_b, K_l, J_long, M_in]
          by_cases h0 : mx (tr (m 3) l) i < tr (m 3) l i
          · rw [if_pos h0]
            rw [Int.max_eq_right (by omega)] at hnext
            exact hnext
          · rw [if_neg h0]
            rw [Int.max_eq_left (by omega)] at hnext
            exact hnext
    · rw [if_neg (by omega), show i = cN (m 3) l - 2 by omega]) 0 (by omega) (by omega)
  rw [t0] at key
  exact key
def sl (W : Int → Int) (l i : Int) : Int := if wy W l i % 2 = 1 then sp W l i else 0
theorem L_slants (hg : GOk g z) (ha : isLn TD a) (hv : LV s a W l) (hG : LG W l) : qLn_slantingSteps (z + a) (hi z TD g w s) = rI (J (sm (sl W l) (cN W l - 1))) (hi z TD g w s) := by
  have hb := hG.1
  have b1 := hb.1
  have x1 := hv.1
  refine loopI (S := Int) (fun N i => qLn_slantingSteps_4 N (z + a) (J (sm (sl W l) i)) (J i) (hi z TD g w s)) (fun X => X = rI (J (sm (sl W l) (cN W l - 1))) (hi z TD g w s)) (fun i => 0 ≤ i ∧ i ≤ cN W l - 1) (fun i => cN W l - 1 - i) (by intro p hp; omega) (fun N i hi0 ih => ?_) 0 (by omega) (by omega)
  show qLn_slantingSteps_4_b (qLn_slantingSteps_4 N) (z + a) _ (J i) (hi z TD g w s) = _
  unfold qLn_slantingSteps_4_b
  simp (disch := first | assumption | omega) only [↓isO_L, ↓gI_L0, ↓pV_L0, ↓gI_L1, ↓pV_L1, ↓gI_L2, ↓pV_L2, ↓gI_L3, ↓pV_L3, ↓gR_L4, ↓rd_L4, ↓wr_L4, ↓gR_L5, ↓rd_L5, ↓wr_L5, pV_L0, pV_L1, pV_L2, pV_L3, rd_L4, wr_L4, rd_L5, wr_L5, J_l, J_neg, J_add, J_sub, J_mul, J_lt, J_le, J_eq, J_div2, J_rem2, J_shl1, J_orp, J_or, J_and, J_shr, J_ushr, J_max, J_min, J_abs, J_b0, ↓b0_ite, ↓b0_ite2, b0_ite, bI_r, bV_r, b01_ite, ite_true, ite_false, rZ_b, K_l, J_long, M_in, x1]
  by_cases hc : i < cN W l - 1
  · have hnext := ih (i + 1) (by omega) (by omega)
    rw [sm_s hi0.1] at hnext
    have h0 := hG.2.1 i hi0.1 hc
    have h7 := wy_le (W := W) (l := l) (r := i)
    rw [if_pos hc]
    simp (disch := first | assumption | omega) only [↓isO_L, ↓gI_L0, ↓pV_L0, ↓gI_L1, ↓pV_L1, ↓gI_L2, ↓pV_L2, ↓gI_L3, ↓pV_L3, ↓gR_L4, ↓rd_L4, ↓wr_L4, ↓gR_L5, ↓rd_L5, ↓wr_L5, pV_L0, pV_L1, pV_L2, pV_L3, rd_L4, wr_L4, rd_L5, wr_L5, J_l, J_neg, J_add, J_sub, J_mul, J_lt, J_le, J_eq, J_div2, J_rem2, J_shl1, J_orp, J_or, J_and, J_shr, J_ushr, J_max, J_min, J_abs, J_b0, ↓b0_ite, ↓b0_ite2, b0_ite, bI_r, bV_r, b01_ite, ite_true, ite_false, rZ_b, K_l, J_long, M_in, L_wayOfRun hg ha hv hb ⟨hi0.1, hc⟩, L_stepsOfRun ha hv hb ⟨hi0.1, hc⟩]
    unfold sl at hnext ⊢
    by_cases h2 : wy W l i % 2 = 1
    · rw [if_pos h2]
      rw [if_pos h2] at hnext
      exact hnext
    · rw [if_neg h2]
      rw [if_neg h2, Int.add_zero] at hnext
      exact hnext
  · rw [if_neg hc, show i = cN W l - 1 by omega]
theorem M_slants (hl : 0 ≤ l ∧ l < 8) (hG : LG (m 3) l) : qM_slantsOf y (J l) (hi y TM g w m) = rI (J (sm (sl (m 3) l) (cN (m 3) l - 1))) (hi y TM g w m) := by
  have hb := hG.1
  have b1 := hb.1
  refine loopI (S := Int) (fun N i => qM_slantsOf_4 N y (J l) (J (sm (sl (m 3) l) i)) (J i) (hi y TM g w m)) (fun X => X = rI (J (sm (sl (m 3) l) (cN (m 3) l - 1))) (hi y TM g w m)) (fun i => 0 ≤ i ∧ i ≤ cN (m 3) l - 1) (fun i => cN (m 3) l - 1 - i) (by intro p hp; omega) (fun N i hi0 ih => ?_) 0 (by omega) (by omega)
  show qM_slantsOf_4_b (qM_slantsOf_4 N) y (J l) _ (J i) (hi y TM g w m) = _
  unfold qM_slantsOf_4_b
  simp (disch := first | assumption | omega) only [↓isO_M, ↓gL_H, ↓pL_H, ↓gI_M1, ↓gI_M2, ↓gI_M3, ↓gI_M4, ↓gI_M5, ↓gI_M6, ↓gI_M13, ↓gI_M22, ↓gI_M23, ↓gI_M24, ↓gI_M25, ↓gI_M27, ↓gI_M28, ↓gI_M29, ↓gI_M30, ↓gI_M31, ↓gI_M32, ↓gI_M33, ↓gI_M34, ↓gI_M35, ↓gI_M40, ↓gI_M41, ↓gI_M42, ↓gI_M43, ↓pV_M1, ↓pV_M2, ↓pV_M3, ↓pV_M4, ↓pV_M5, ↓pV_M6, ↓pV_M13, ↓pV_M22, ↓pV_M23, ↓pV_M24, ↓pV_M25, ↓pV_M27, ↓pV_M28, ↓pV_M29, ↓pV_M30, ↓pV_M31, ↓pV_M32, ↓pV_M33, ↓pV_M34, ↓pV_M35, ↓pV_M40, ↓pV_M41, ↓pV_M42, ↓pV_M43, ↓gR_M0, ↓gR_M7, ↓gR_M8, ↓gR_M9, ↓gR_M10, ↓gR_M11, ↓gR_M12, ↓gR_M14, ↓gR_M15, ↓gR_M16, ↓gR_M17, ↓gR_M18, ↓gR_M19, ↓gR_M20, ↓gR_M21, ↓gR_M36, ↓gR_M37, ↓gR_M38, ↓gR_M39, ↓rd_M1, ↓rd_M2, ↓rd_M3, ↓rd_M4, ↓rd_M5, ↓rd_M6, ↓rd_M7, ↓rd_M8, ↓rd_M9, ↓rd_M10, ↓rd_M11, ↓rd_M12, ↓rd_M13, ↓rd_M14, ↓rd_M15, ↓rd_M16, ↓rd_M17, ↓rd_M18, ↓rd_M19, ↓wr_M1, ↓wr_M2, ↓wr_M3, ↓wr_M4, ↓wr_M5, ↓wr_M6, ↓wr_M7, ↓wr_M8, ↓wr_M9, ↓wr_M10, ↓wr_M11, ↓wr_M12, ↓wr_M13, ↓wr_M14, ↓wr_M15, ↓wr_M16, ↓wr_M17, ↓wr_M18, ↓wr_M19, pL_H, pV_M1, pV_M2, pV_M3, pV_M4, pV_M5, pV_M6, pV_M13, pV_M22, pV_M23, pV_M24, pV_M25, pV_M27, pV_M28, pV_M29, pV_M30, pV_M31, pV_M32, pV_M33, pV_M34, pV_M35, pV_M40, pV_M41, pV_M42, pV_M43, rd_M1, rd_M2, rd_M3, rd_M4, rd_M5, rd_M6, rd_M7, rd_M8, rd_M9, rd_M10, rd_M11, rd_M12, rd_M13, rd_M14, rd_M15, rd_M16, rd_M17, rd_M18, rd_M19, wr_M1, wr_M2, wr_M3, wr_M4, wr_M5, wr_M6, wr_M7, wr_M8, wr_M9, wr_M10, wr_M11, wr_M12, wr_M13, wr_M14, wr_M15, wr_M16, wr_M17, wr_M18, wr_M19, J_l, J_neg, J_add, J_sub, J_mul, J_lt, J_le, J_eq, J_div2, J_rem2, J_shl1, J_orp, J_or, J_and, J_shr, J_ushr, J_max, J_min, J_abs, J_b0, ↓b0_ite, ↓b0_ite2, b0_ite, bI_r, bV_r, b01_ite, ite_true, ite_false, rZ_b, K_l, J_long, M_in, M_oN]
  by_cases hc : i < cN (m 3) l - 1
  · have hnext := ih (i + 1) (by omega) (by omega)
    rw [sm_s hi0.1] at hnext
    have h0 := hG.2.1 i hi0.1 hc
    have h7 := wy_le (W := m 3) (l := l) (r := i)
    rw [if_pos (by omega)]
    simp (disch := first | assumption | omega) only [↓isO_M, ↓gL_H, ↓pL_H, ↓gI_M1, ↓gI_M2, ↓gI_M3, ↓gI_M4, ↓gI_M5, ↓gI_M6, ↓gI_M13, ↓gI_M22, ↓gI_M23, ↓gI_M24, ↓gI_M25, ↓gI_M27, ↓gI_M28, ↓gI_M29, ↓gI_M30, ↓gI_M31, ↓gI_M32, ↓gI_M33, ↓gI_M34, ↓gI_M35, ↓gI_M40, ↓gI_M41, ↓gI_M42, ↓gI_M43, ↓pV_M1, ↓pV_M2, ↓pV_M3, ↓pV_M4, ↓pV_M5, ↓pV_M6, ↓pV_M13, ↓pV_M22, ↓pV_M23, ↓pV_M24, ↓pV_M25, ↓pV_M27, ↓pV_M28, ↓pV_M29, ↓pV_M30, ↓pV_M31, ↓pV_M32, ↓pV_M33, ↓pV_M34, ↓pV_M35, ↓pV_M40, ↓pV_M41, ↓pV_M42, ↓pV_M43, ↓gR_M0, ↓gR_M7, ↓gR_M8, ↓gR_M9, ↓gR_M10, ↓gR_M11, ↓gR_M12, ↓gR_M14, ↓gR_M15, ↓gR_M16, ↓gR_M17, ↓gR_M18, ↓gR_M19, ↓gR_M20, ↓gR_M21, ↓gR_M36, ↓gR_M37, ↓gR_M38, ↓gR_M39, ↓rd_M1, ↓rd_M2, ↓rd_M3, ↓rd_M4, ↓rd_M5, ↓rd_M6, ↓rd_M7, ↓rd_M8, ↓rd_M9, ↓rd_M10, ↓rd_M11, ↓rd_M12, ↓rd_M13, ↓rd_M14, ↓rd_M15, ↓rd_M16, ↓rd_M17, ↓rd_M18, ↓rd_M19, ↓wr_M1, ↓wr_M2, ↓wr_M3, ↓wr_M4, ↓wr_M5, ↓wr_M6, ↓wr_M7, ↓wr_M8, ↓wr_M9, ↓wr_M10, ↓wr_M11, ↓wr_M12, ↓wr_M13, ↓wr_M14, ↓wr_M15, ↓wr_M16, ↓wr_M17, ↓wr_M18, ↓wr_M19, pL_H, pV_M1, pV_M2, pV_M3, pV_M4, pV_M5, pV_M6, pV_M13, pV_M22, pV_M23, pV_M24, pV_M25, pV_M27, pV_M28, pV_M29, pV_M30, pV_M31, pV_M32, pV_M33, pV_M34, pV_M35, pV_M40, pV_M41, pV_M42, pV_M43, rd_M1, rd_M2, rd_M3, rd_M4, rd_M5, rd_M6, rd_M7, rd_M8, rd_M9, rd_M10, rd_M11, rd_M12, rd_M13, rd_M14, rd_M15, rd_M16, rd_M17, rd_M18, rd_M19, wr_M1, wr_M2, wr_M3, wr_M4, wr_M5, wr_M6, wr_M7, wr_M8, wr_M9, wr_M10, wr_M11, wr_M12, wr_M13, wr_M14, wr_M15, wr_M16, wr_M17, wr_M18, wr_M19, J_l, J_neg, J_add, J_sub, J_mul, J_lt, J_le, J_eq, J_div2, J_rem2, J_shl1, J_orp, J_or, J_and, J_shr, J_ushr, J_max, J_min, J_abs, J_b0, ↓b0_ite, ↓b0_ite2, b0_ite, bI_r, bV_r, b01_ite, ite_true, ite_false, rZ_b, K_l, J_long, M_in, M_wayOf2 hl hb ⟨hi0.1, hc⟩ h0, M_stepsOf hl hb ⟨hi0.1, hc⟩]
    unfold sl at hnext ⊢
    by_cases h2 : wy (m 3) l i % 2 = 1
    · rw [if_pos h2]
      rw [if_pos h2] at hnext
      exact hnext
    · rw [if_neg h2]
      rw [if_neg h2] at hnext
      exact hnext
  · rw [if_neg (by omega), show i = cN (m 3) l - 1 by omega]
/-! the most crooked line -/
noncomputable def bN (W : Int → Int) : Nat → Int
  | 0 => -2
  | k + 1 => if bN W k < 0 ∨ sm (tr W (bN W k)) (cN W (bN W k) - 2) < sm (tr W k) (cN W k - 2) then k else bN W k
theorem bN_in (W : Int → Int) : ∀ k : Nat, bN W k = -2 ∨ (0 ≤ bN W k ∧ bN W k < k)
  | 0 => Or.inl rfl
  | k + 1 => by
    have ih := bN_in W k
    show (if bN W k < 0 ∨ _ then (k : Int) else bN W k) = -2 ∨ (0 ≤ (if bN W k < 0 ∨ _ then (k : Int) else bN W k) ∧ (if bN W k < 0 ∨ _ then (k : Int) else bN W k) < ((k + 1 : Nat) : Int))
    split
    · exact Or.inr ⟨by omega, by omega⟩
    · rcases ih with e | e
      · exact Or.inl e
      · exact Or.inr ⟨e.1, by omega⟩
theorem tr_sum (hb : LB W l) : 0 ≤ sm (tr W l) (cN W l - 2) ∧ sm (tr W l) (cN W l - 2) ≤ 100 := by
  have b1 := hb.1
  have := sm_bd (f := tr W l) (a := 0) (b := 4) (n := cN W l - 2) (by omega) (fun i _ _ => tr_in)
  omega
theorem B_crookedest (hg0 : GOk g z) (hI : Inv s m) : Both (qD_crookedest z (hi z TD g w s)) (qM_crookedest y (hi y TM g' w' m)) z y g g' w w' := by
  have hIk := hI
  obtain ⟨hT, hE, ⟨hH, hNm, hP, row, hB, hO⟩, hS, hHi⟩ := hI
  have hn := hH.2.2.2
  have hLB : ∀ l, 0 ≤ l → l < m 0 6 → LB (m 3) l := fun l a b => (hP.1.1 l a b).1
  have hz := Bsz_of hH hP.1
  have hLI := LabI_of hP hB hO
  obtain ⟨m1, e1, l1⟩ := M_lays (y := y) (g := g') (w := w') (m := m) hH rfl rfl hP.1
  have hLM := LabM_of l1 hP.1.2.1 rfl
  have hk1 := KeepM_laid l1
  have hN : s 6 3 = m 0 6 := hP.2.2.2.2.1
  have kD := loopI (S := Int) (fun N l => qD_crookedest_7 N z (J (bN (m 3) l.toNat)) (J (if bN (m 3) l.toNat < 0 then -1 else sm (tr (m 3) (bN (m 3) l.toNat)) (cN (m 3) (bN (m 3) l.toNat) - 2))) (J l) (hi z TD g w s)) (fun X => X = rI (J (bN (m 3) (m 0 6).toNat)) (hi z TD g w s)) (fun l => 0 ≤ l ∧ l ≤ m 0 6) (fun l => m 0 6 - l) (by intro p hp; omega) (fun N l hl ih => by
    show qD_crookedest_7_b (qD_crookedest_7 N) z _ _ (J l) (hi z TD g w s) = _
    unfold qD_crookedest_7_b
    have bb := bN_in (m 3) l.toNat
    simp (disch := first | assumption | omega) only [↓gR_D0, ↓gR_D1, ↓gR_D2, ↓gR_D3, ↓gR_D4, ↓gR_D5, ↓gR_D6, ↓gR_D7, ↓gR_D8, ↓gR_D9, ↓gR_D10, ↓gI_D11, ↓pV_D11, ↓isO_D, ↓gI_T0, ↓pV_T0, ↓gR_T1, ↓isO_T, ↓rd_T2, ↓wr_T2, ↓gI_U0, ↓pV_U0, ↓gR_U1, ↓isO_U, ↓rd_U2, ↓wr_U2, ↓gI_Ps0, ↓pV_Ps0, ↓gI_Ps1, ↓pV_Ps1, ↓gI_Ps2, ↓pV_Ps2, ↓gI_Ps3, ↓pV_Ps3, ↓gI_Ps4, ↓pV_Ps4, ↓isO_Ps, ↓gI_N0, ↓pV_N0, ↓gI_N1, ↓pV_N1, ↓gI_N2, ↓pV_N2, ↓gI_N3, ↓pV_N3, ↓gR_N4, ↓gR_N5, ↓isO_N, ↓rd_NL, ↓gI_NB0, ↓pV_NB0, ↓gR_NB1, ↓gR_NB2, ↓isO_NB, ↓rd_NC, ↓wr_NC, ↓ln_NC, ↓rd_NP, ↓wr_NP, ↓ln_NP, ↓gI_V0, ↓pV_V0, ↓gI_V1, ↓pV_V1, ↓gI_V2, ↓pV_V2, ↓gI_V3, ↓pV_V3, ↓gR_V4, ↓gR_V5, ↓isO_V, ↓rd_VL, ↓gI_VB0, ↓pV_VB0, ↓gR_VB1, ↓gR_VB2, ↓isO_VB, ↓rd_VC, ↓wr_VC, ↓ln_VC, ↓rd_VP, ↓wr_VP, ↓ln_VP, ↓rd_SL, ↓rd_KP, ↓wr_KP, ↓gI_H0, ↓pV_H0, ↓gI_H1, ↓pV_H1, ↓gR_H2, ↓isO_H, ↓rd_HP, ↓gI_B0, ↓pV_B0, ↓gI_B1, ↓pV_B1, ↓gR_B2, ↓gR_B3, ↓gR_B4, ↓gR_B5, ↓gR_B6, ↓gR_B7, ↓gR_B8, ↓isO_B, ↓rd_B301, ↓wr_B301, ↓ln_B301, ↓rd_B302, ↓wr_B302, ↓ln_B302, ↓rd_B303, ↓wr_B303, ↓ln_B303, ↓rd_B304, ↓wr_B304, ↓ln_B304, ↓rd_B305, ↓wr_B305, ↓ln_B305, ↓rd_B306, ↓wr_B306, ↓ln_B306, ↓rd_B307, ↓wr_B307, ↓ln_B307, ↓gR_Tv, ↓isO_Tv, ↓rd_Tv9, ↓wr_Tv9, ↓ln_Tv9, pV_D11, pV_T0, rd_T2, wr_T2, pV_U0, rd_U2, wr_U2, pV_Ps0, pV_Ps1, pV_Ps2, pV_Ps3, pV_Ps4, pV_N0, pV_N1, pV_N2, pV_N3, rd_NL, pV_NB0, rd_NC, wr_NC, rd_NP, wr_NP, pV_V0, pV_V1, pV_V2, pV_V3, rd_VL, pV_VB0, rd_VC, wr_VC, rd_VP, wr_VP, rd_SL, rd_KP, wr_KP, pV_H0, pV_H1, rd_HP, pV_B0, pV_B1, rd_B301, wr_B301, rd_B302, wr_B302, rd_B303, wr_B303, rd_B304, wr_B304, rd_B305, wr_B305, rd_B306, wr_B306, rd_B307, wr_B307, rd_Tv9, wr_Tv9, J_l, J_neg, J_add, J_sub, J_mul, J_lt, J_le, J_eq, J_div2, J_rem2, J_shl1, J_orp, J_or, J_and, J_shr, J_ushr, J_max, J_min, J_abs, J_b0, ↓b0_ite, ↓b0_ite2, b0_ite, bI_r, bV_r, b01_ite, ite_true, ite_false, rZ_b, K_l, J_long, M_in, hN]
    by_cases hc : l < m 0 6
    · have hnext := ih (l + 1) (by omega) (by omega)
      obtain ⟨hLn, hv1⟩ := now_line hP.2 ⟨hl.1, hc⟩ hn.2
      have hb := hLB l hl.1 hc
      have ts := tr_sum hb
      have e1 : bN (m 3) (l + 1).toNat = if bN (m 3) l.toNat < 0 ∨ sm (tr (m 3) (bN (m 3) l.toNat)) (cN (m 3) (bN (m 3) l.toNat) - 2) < sm (tr (m 3) l) (cN (m 3) l - 2) then l else bN (m 3) l.toNat := by
        rw [show (l + 1).toNat = l.toNat + 1 by omega]
        show (if _ then ((l.toNat : Nat) : Int) else _) = _
        rw [show ((l.toNat : Nat) : Int) = l by omega]
      have tb : -1 ≤ (if bN (m 3) l.toNat < 0 then -1 else sm (tr (m 3) (bN (m 3) l.toNat)) (cN (m 3) (bN (m 3) l.toNat) - 2)) ∧ (if bN (m 3) l.toNat < 0 then -1 else sm (tr (m 3) (bN (m 3) l.toNat)) (cN (m 3) (bN (m 3) l.toNat) - 2)) ≤ 100 := by
        split
        · omega
        · have := tr_sum (hLB (bN (m 3) l.toNat) (by omega) (by omega))
          omega
      rw [if_pos hc]
      simp (disch := first | assumption | omega) only [↓gR_D0, ↓gR_D1, ↓gR_D2, ↓gR_D3, ↓gR_D4, ↓gR_D5, ↓gR_D6, ↓gR_D7, ↓gR_D8, ↓gR_D9, ↓gR_D10, ↓gI_D11, ↓pV_D11, ↓isO_D, ↓gI_T0, ↓pV_T0, ↓gR_T1, ↓isO_T, ↓rd_T2, ↓wr_T2, ↓gI_U0, ↓pV_U0, ↓gR_U1, ↓isO_U, ↓rd_U2, ↓wr_U2, ↓gI_Ps0, ↓pV_Ps0, ↓gI_Ps1, ↓pV_Ps1, ↓gI_Ps2, ↓pV_Ps2, ↓gI_Ps3, ↓pV_Ps3, ↓gI_Ps4, ↓pV_Ps4, ↓isO_Ps, ↓gI_N0, ↓pV_N0, ↓gI_N1, ↓pV_N1, ↓gI_N2, ↓pV_N2, ↓gI_N3, ↓pV_N3, ↓gR_N4, ↓gR_N5, ↓isO_N, ↓rd_NL, ↓gI_NB0, ↓pV_NB0, ↓gR_NB1, ↓gR_NB2, ↓isO_NB, ↓rd_NC, ↓wr_NC, ↓ln_NC, ↓rd_NP, ↓wr_NP, ↓ln_NP, ↓gI_V0, ↓pV_V0, ↓gI_V1, ↓pV_V1, ↓gI_V2, ↓pV_V2, ↓gI_V3, ↓pV_V3, ↓gR_V4, ↓gR_V5, ↓isO_V, ↓rd_VL, ↓gI_VB0, ↓pV_VB0, ↓gR_VB1, ↓gR_VB2, ↓isO_VB, ↓rd_VC, ↓wr_VC, ↓ln_VC, ↓rd_VP, ↓wr_VP, ↓ln_VP, ↓rd_SL, ↓rd_KP, ↓wr_KP, ↓gI_H0, ↓pV_H0, ↓gI_H1, ↓pV_H1, ↓gR_H2, ↓isO_H, ↓rd_HP, ↓gI_B0, ↓pV_B0, ↓gI_B1, ↓pV_B1, ↓gR_B2, ↓gR_B3, ↓gR_B4, ↓gR_B5, ↓gR_B6, ↓gR_B7, ↓gR_B8, ↓isO_B, ↓rd_B301, ↓wr_B301, ↓ln_B301, ↓rd_B302, ↓wr_B302, ↓ln_B302, ↓rd_B303, ↓wr_B303, ↓ln_B303, ↓rd_B304, ↓wr_B304, ↓ln_B304, ↓rd_B305, ↓wr_B305, ↓ln_B305, ↓rd_B306, ↓wr_B306, ↓ln_B306, ↓rd_B307, ↓wr_B307, ↓ln_B307, ↓gR_Tv, ↓isO_Tv, ↓rd_Tv9, ↓wr_Tv9, ↓ln_Tv9, pV_D11, pV_T0, rd_T2, wr_T2, pV_U0, rd_U2, wr_U2, pV_Ps0, pV_Ps1, pV_Ps2, pV_Ps3, pV_Ps4, pV_N0, pV_N1, pV_N2, pV_N3, rd_NL, pV_NB0, rd_NC, wr_NC, rd_NP, wr_NP, pV_V0, pV_V1, pV_V2, pV_V3, rd_VL, pV_VB0, rd_VC, wr_VC, rd_VP, wr_VP, rd_SL, rd_KP, wr_KP, pV_H0, pV_H1, rd_HP, pV_B0, pV_B1, rd_B301, wr_B301, rd_B302, wr_B302, rd_B303, wr_B303, rd_B304, wr_B304, rd_B305, wr_B305, rd_B306, wr_B306, rd_B307, wr_B307, rd_Tv9, wr_Tv9, ↓isO_L, ↓gI_L0, ↓pV_L0, ↓gI_L1, ↓pV_L1, ↓gI_L2, ↓pV_L2, ↓gI_L3, ↓pV_L3, ↓gR_L4, ↓rd_L4, ↓wr_L4, ↓gR_L5, ↓rd_L5, ↓wr_L5, pV_L0, pV_L1, pV_L2, pV_L3, rd_L4, wr_L4, rd_L5, wr_L5, J_l, J_neg, J_add, J_sub, J_mul, J_lt, J_le, J_eq, J_div2, J_rem2, J_shl1, J_orp, J_or, J_and, J_shr, J_ushr, J_max, J_min, J_abs, J_b0, ↓b0_ite, ↓b0_ite2, b0_ite, bI_r, bV_r, b01_ite, ite_true, ite_false, rZ_b, K_l, J_long, M_in, L_sumOfTurns hg0 hLn hv1 hb]
      by_cases hneg : bN (m 3) l.toNat < 0
      · rw [if_pos (Or.inl hneg)] at e1
        rw [e1, if_neg (by omega)] at hnext
        rw [if_pos hneg, if_pos (by omega)]
        exact hnext
      · rw [if_neg hneg]
        by_cases hlt : sm (tr (m 3) (bN (m 3) l.toNat)) (cN (m 3) (bN (m 3) l.toNat) - 2) < sm (tr (m 3) l) (cN (m 3) l - 2)
        · rw [if_pos (Or.inr hlt)] at e1
          rw [e1, if_neg (by omega)] at hnext
          rw [if_pos hlt]
          exact hnext
        · rw [if_neg (by omega)] at e1
          rw [e1, if_neg hneg] at hnext
          rw [if_neg hlt]
          exact hnext
    · rw [if_neg hc, show l = m 0 6 by omega]) 0 (by omega) (by omega)
  have kM := loopI (S := Int) (fun N l => qM_crookedest_5 N y (J (bN (m 3) l.toNat)) (J l) (hi y TM g' w' m)) (fun X => X = rI (J (bN (m 3) (m 0 6).toNat)) (hi y TM g' w' m)) (fun l => 0 ≤ l ∧ l ≤ m 0 6) (fun l => m 0 6 - l) (by intro p hp; omega) (fun N l hl ih => by
    show qM_crookedest_5_b (qM_crookedest_5 N) y _ (J l) (hi y TM g' w' m) = _
    unfold qM_crookedest_5_b qM_crookedest_34
    have bb := bN_in (m 3) l.toNat
    simp (disch := first | assumption | omega) only [↓isO_M, ↓gL_H, ↓pL_H, ↓gI_M1, ↓gI_M2, ↓gI_M3, ↓gI_M4, ↓gI_M5, ↓gI_M6, ↓gI_M13, ↓gI_M22, ↓gI_M23, ↓gI_M24, ↓gI_M25, ↓gI_M27, ↓gI_M28, ↓gI_M29, ↓gI_M30, ↓gI_M31, ↓gI_M32, ↓gI_M33, ↓gI_M34, ↓gI_M35, ↓gI_M40, ↓gI_M41, ↓gI_M42, ↓gI_M43, ↓pV_M1, ↓pV_M2, ↓pV_M3, ↓pV_M4, ↓pV_M5, ↓pV_M6, ↓pV_M13, ↓pV_M22, ↓pV_M23, ↓pV_M24, ↓pV_M25, ↓pV_M27, ↓pV_M28, ↓pV_M29, ↓pV_M30, ↓pV_M31, ↓pV_M32, ↓pV_M33, ↓pV_M34, ↓pV_M35, ↓pV_M40, ↓pV_M41, ↓pV_M42, ↓pV_M43, ↓gR_M0, ↓gR_M7, ↓gR_M8, ↓gR_M9, ↓gR_M10, ↓gR_M11, ↓gR_M12, ↓gR_M14, ↓gR_M15, ↓gR_M16, ↓gR_M17, ↓gR_M18, ↓gR_M19, ↓gR_M20, ↓gR_M21, ↓gR_M36, ↓gR_M37, ↓gR_M38, ↓gR_M39, ↓rd_M1, ↓rd_M2, ↓rd_M3, ↓rd_M4, ↓rd_M5, ↓rd_M6, ↓rd_M7, ↓rd_M8, ↓rd_M9, ↓rd_M10, ↓rd_M11, ↓rd_M12, ↓rd_M13, ↓rd_M14, ↓rd_M15, ↓rd_M16, ↓rd_M17, ↓rd_M18, ↓rd_M19, ↓wr_M1, ↓wr_M2, ↓wr_M3, ↓wr_M4, ↓wr_M5, ↓wr_M6, ↓wr_M7, ↓wr_M8, ↓wr_M9, ↓wr_M10, ↓wr_M11, ↓wr_M12, ↓wr_M13, ↓wr_M14, ↓wr_M15, ↓wr_M16, ↓wr_M17, ↓wr_M18, ↓wr_M19, pL_H, pV_M1, pV_M2, pV_M3, pV_M4, pV_M5, pV_M6, pV_M13, pV_M22, pV_M23, pV_M24, pV_M25, pV_M27, pV_M28, pV_M29, pV_M30, pV_M31, pV_M32, pV_M33, pV_M34, pV_M35, pV_M40, pV_M41, pV_M42, pV_M43, rd_M1, rd_M2, rd_M3, rd_M4, rd_M5, rd_M6, rd_M7, rd_M8, rd_M9, rd_M10, rd_M11, rd_M12, rd_M13, rd_M14, rd_M15, rd_M16, rd_M17, rd_M18, rd_M19, wr_M1, wr_M2, wr_M3, wr_M4, wr_M5, wr_M6, wr_M7, wr_M8, wr_M9, wr_M10, wr_M11, wr_M12, wr_M13, wr_M14, wr_M15, wr_M16, wr_M17, wr_M18, wr_M19, J_l, J_neg, J_add, J_sub, J_mul, J_lt, J_le, J_eq, J_div2, J_rem2, J_shl1, J_orp, J_or, J_and, J_shr, J_ushr, J_max, J_min, J_abs, J_b0, ↓b0_ite, ↓b0_ite2, b0_ite, bI_r, bV_r, b01_ite, ite_true, ite_false, rZ_b, K_l, J_long, M_in]
    by_cases hc : l < m 0 6
    · have hnext := ih (l + 1) (by omega) (by omega)
      have hb := hLB l hl.1 hc
      have ts := tr_sum hb
      have e1 : bN (m 3) (l + 1).toNat = if bN (m 3) l.toNat < 0 ∨ sm (tr (m 3) (bN (m 3) l.toNat)) (cN (m 3) (bN (m 3) l.toNat) - 2) < sm (tr (m 3) l) (cN (m 3) l - 2) then l else bN (m 3) l.toNat := by
        rw [show (l + 1).toNat = l.toNat + 1 by omega]
        show (if _ then ((l.toNat : Nat) : Int) else _) = _
        rw [show ((l.toNat : Nat) : Int) = l by omega]
      rw [if_pos hc]
      by_cases hneg : bN (m 3) l.toNat < 0
      · rw [if_pos (Or.inl hneg)] at e1
        rw [e1] at hnext
        rw [if_pos hneg]
        exact hnext
      · rw [if_neg hneg]
        have t1 := M_turns (y := y) (g := g') (w := w') (m := m) (l := l) (v := 6) (by omega) (hP.1.1 l hl.1 hc) (by omega)
        have t2 := M_turns (y := y) (g := g') (w := w') (m := m) (l := bN (m 3) l.toNat) (v := 6) (by omega) (hP.1.1 _ (by omega) (by omega)) (by omega)
        have ts2 := tr_sum (hLB (bN (m 3) l.toNat) (by omega) (by omega))
        have k1 : ∀ l i, tK (m 3) l 6 i = sm (tr (m 3) l) i := fun l i => by unfold tK; rw [if_neg (by decide), if_pos rfl]
        rw [k1] at t1 t2
        simp (disch := first | assumption | omega) only [↓isO_M, ↓gL_H, ↓pL_H, ↓gI_M1, ↓gI_M2, ↓gI_M3, ↓gI_M4, ↓gI_M5, ↓gI_M6, ↓gI_M13, ↓gI_M22, ↓gI_M23, ↓gI_M24, ↓gI_M25, ↓gI_M27, ↓gI_M28, ↓gI_M29, ↓gI_M30, ↓gI_M31, ↓gI_M32, ↓gI_M33, ↓gI_M34, ↓gI_M35, ↓gI_M40, ↓gI_M41, ↓gI_M42, ↓gI_M43, ↓pV_M1, ↓pV_M2, ↓pV_M3, ↓pV_M4, ↓pV_M5, ↓pV_M6, ↓pV_M13, ↓pV_M22, ↓pV_M23, ↓pV_M24, ↓pV_M25, ↓pV_M27, ↓pV_M28, ↓pV_M29, ↓pV_M30, ↓pV_M31, ↓pV_M32, ↓pV_M33, ↓pV_M34, ↓pV_M35, ↓pV_M40, ↓pV_M41, ↓pV_M42, ↓pV_M43, ↓gR_M0, ↓gR_M7, ↓gR_M8, ↓gR_M9, ↓gR_M10, ↓gR_M11, ↓gR_M12, ↓gR_M14, ↓gR_M15, ↓gR_M16, ↓gR_M17, ↓gR_M18, ↓gR_M19, ↓gR_M20, ↓gR_M21, ↓gR_M36, ↓gR_M37, ↓gR_M38, ↓gR_M39, ↓rd_M1, ↓rd_M2, ↓rd_M3, ↓rd_M4, ↓rd_M5, ↓rd_M6, ↓rd_M7, ↓rd_M8, ↓rd_M9, ↓rd_M10, ↓rd_M11, ↓rd_M12, ↓rd_M13, ↓rd_M14, ↓rd_M15, ↓rd_M16, ↓rd_M17, ↓rd_M18, ↓rd_M19, ↓wr_M1, ↓wr_M2, ↓wr_M3, ↓wr_M4, ↓wr_M5, ↓wr_M6, ↓wr_M7, ↓wr_M8, ↓wr_M9, ↓wr_M10, ↓wr_M11, ↓wr_M12, ↓wr_M13, ↓wr_M14, ↓wr_M15, ↓wr_M16, ↓wr_M17, ↓wr_M18, ↓wr_M19, pL_H, pV_M1, pV_M2, pV_M3, pV_M4, pV_M5, pV_M6, pV_M13, pV_M22, pV_M23, pV_M24, pV_M25, pV_M27, pV_M28, pV_M29, pV_M30, pV_M31, pV_M32, pV_M33, pV_M34, pV_M35, pV_M40, pV_M41, pV_M42, pV_M43, rd_M1, rd_M2, rd_M3, rd_M4, rd_M5, rd_M6, rd_M7, rd_M8, rd_M9, rd_M10, rd_M11, rd_M12, rd_M13, rd_M14, rd_M15, rd_M16, rd_M17, rd_M18, rd_M19, wr_M1, wr_M2, wr_M3, wr_M4, wr_M5, wr_M6, wr_M7, wr_M8, wr_M9, wr_M10, wr_M11, wr_M12, wr_M13, wr_M14, wr_M15, wr_M16, wr_M17, wr_M18, wr_M19, J_l, J_neg, J_add, J_sub, J_mul, J_lt, J_le, J_eq, J_div2, J_rem2, J_shl1, J_orp, J_or, J_and, J_shr, J_ushr, J_max, J_min, J_abs, J_b0, ↓b0_ite, ↓b0_ite2, b0_ite, bI_r, bV_r, b01_ite, ite_true, ite_false, rZ_b, K_l, J_long, M_in, t1, t2]
        by_cases hlt : sm (tr (m 3) (bN (m 3) l.toNat)) (cN (m 3) (bN (m 3) l.toNat) - 2) < sm (tr (m 3) l) (cN (m 3) l - 2)
        · rw [if_pos (Or.inr hlt)] at e1
          rw [e1] at hnext
          rw [if_pos hlt]
          exact hnext
        · rw [if_neg (by omega)] at e1
          rw [e1] at hnext
          rw [if_neg hlt]
          exact hnext
    · rw [if_neg hc, show l = m 0 6 by omega]) 0 (by omega) (by omega)
  exact B_keep hIk kD kM KeepS.refl KeepM.refl
/-! gaps -/
def gapW (W : Int → Int) (l i : Int) : Int := st W l (i + 1) - st W l i
def mnN (f : Int → Int) : Nat → Int
  | 0 => 1000000
  | n + 1 => min (mnN f n) (f n)
def mn (f : Int → Int) (n : Int) : Int := mnN f n.toNat
theorem mn_s {f : Int → Int} (h : 0 ≤ n) : mn f (n + 1) = min (mn f n) (f n) := by
  unfold mn
  rw [show (n + 1).toNat = n.toNat + 1 by omega]
  show min (mnN f n.toNat) (f (n.toNat : Int)) = _
  rw [Int.toNat_of_nonneg h]
theorem gap_in (hG : LG W l) (h0 : 0 ≤ i) (h1 : i + 1 < cT W l) : 1 ≤ gapW W l i ∧ gapW W l i ≤ len W l := by
  have a1 := st_s hG h0
  have a2 := st_in hG (k := i) h0 (by omega)
  have a3 := st_in hG (k := i + 1) (by omega) h1
  unfold gapW
  omega
theorem mn_bd (hG : LG W l) : ∀ n, 0 ≤ n → n ≤ cT W l - 1 → 0 ≤ mn (gapW W l) n ∧ mn (gapW W l) n ≤ 1000000 ∧ (1 ≤ n → mn (gapW W l) n ≤ len W l) ∧ 0 ≤ mx (gapW W l) n ∧ mx (gapW W l) n ≤ 351 := by
  have hl := len_bd hG.1
  refine int_ind_le ⟨by show (0 : Int) ≤ 1000000; omega, by show (1000000 : Int) ≤ 1000000; omega, fun h => by omega, by rw [mx_0]; omega, by rw [mx_0]; omega⟩ (fun k h1 h2 ih => ?_)
  have g1 := gap_in hG h1 (by omega)
  rw [mn_s h1, mx_s h1]
  omega
theorem B_uneven (hI : Inv s m) (hl : -2147483648 ≤ l ∧ l < 2147483648) : Both (qD_uneven z (J l) (hi z TD g w s)) (qM_uneven y (J l) (hi y TM g' w' m)) z y g g' w w' := by
  have hIk := hI
  obtain ⟨hT, hE, ⟨hH, hNm, hP, row, hB, hO⟩, hS, hHi⟩ := hI
  have hn := hH.2.2.2
  have hLB : ∀ l, 0 ≤ l → l < m 0 6 → LB (m 3) l := fun l a b => (hP.1.1 l a b).1
  have hz := Bsz_of hH hP.1
  have hLI := LabI_of hP hB hO
  obtain ⟨m1, e1, l1⟩ := M_lays (y := y) (g := g') (w := w') (m := m) hH rfl rfl hP.1
  have hLM := LabM_of l1 hP.1.2.1 rfl
  have hk1 := KeepM_laid l1
  unfold qD_uneven qM_uneven
  simp (disch := omega) only [↓gR_D0, ↓gR_D1, ↓gR_D2, ↓gR_D3, ↓gR_D4, ↓gR_D5, ↓gR_D6, ↓gR_D7, ↓gR_D8, ↓gR_D9, ↓gR_D10, ↓gI_D11, ↓pV_D11, ↓isO_D, ↓gI_T0, ↓pV_T0, ↓gR_T1, ↓isO_T, ↓rd_T2, ↓wr_T2, ↓gI_U0, ↓pV_U0, ↓gR_U1, ↓isO_U, ↓rd_U2, ↓wr_U2, ↓gI_Ps0, ↓pV_Ps0, ↓gI_Ps1, ↓pV_Ps1, ↓gI_Ps2, ↓pV_Ps2, ↓gI_Ps3, ↓pV_Ps3, ↓gI_Ps4, ↓pV_Ps4, ↓isO_Ps, ↓gI_N0, ↓pV_N0, ↓gI_N1, ↓pV_N1, ↓gI_N2, ↓pV_N2, ↓gI_N3, ↓pV_N3, ↓gR_N4, ↓gR_N5, ↓isO_N, ↓rd_NL, ↓gI_NB0, ↓pV_NB0, ↓gR_NB1, ↓gR_NB2, ↓isO_NB, ↓rd_NC, ↓wr_NC, ↓ln_NC, ↓rd_NP, ↓wr_NP, ↓ln_NP, ↓gI_V0, ↓pV_V0, ↓gI_V1, ↓pV_V1, ↓gI_V2, ↓pV_V2, ↓gI_V3, ↓pV_V3, ↓gR_V4, ↓gR_V5, ↓isO_V, ↓rd_VL, ↓gI_VB0, ↓pV_VB0, ↓gR_VB1, ↓gR_VB2, ↓isO_VB, ↓rd_VC, ↓wr_VC, ↓ln_VC, ↓rd_VP, ↓wr_VP, ↓ln_VP, ↓rd_SL, ↓rd_KP, ↓wr_KP, ↓gI_H0, ↓pV_H0, ↓gI_H1, ↓pV_H1, ↓gR_H2, ↓isO_H, ↓rd_HP, ↓gI_B0, ↓pV_B0, ↓gI_B1, ↓pV_B1, ↓gR_B2, ↓gR_B3, ↓gR_B4, ↓gR_B5, ↓gR_B6, ↓gR_B7, ↓gR_B8, ↓isO_B, ↓rd_B301, ↓wr_B301, ↓ln_B301, ↓rd_B302, ↓wr_B302, ↓ln_B302, ↓rd_B303, ↓wr_B303, ↓ln_B303, ↓rd_B304, ↓wr_B304, ↓ln_B304, ↓rd_B305, ↓wr_B305, ↓ln_B305, ↓rd_B306, ↓wr_B306, ↓ln_B306, ↓rd_B307, ↓wr_B307, ↓ln_B307, ↓gR_Tv, ↓isO_Tv, ↓rd_Tv9, ↓wr_Tv9, ↓ln_Tv9, pV_D11, pV_T0, rd_T2, wr_T2, pV_U0, rd_U2, wr_U2, pV_Ps0, pV_Ps1, pV_Ps2, pV_Ps3, pV_Ps4, pV_N0, pV_N1, pV_N2, pV_N3, rd_NL, pV_NB0, rd_NC, wr_NC, rd_NP, wr_NP, pV_V0, pV_V1, pV_V2, pV_V3, rd_VL, pV_VB0, rd_VC, wr_VC, rd_VP, wr_VP, rd_SL, rd_KP, wr_KP, pV_H0, pV_H1, rd_HP, pV_B0, pV_B1, rd_B301, wr_B301, rd_B302, wr_B302, rd_B303, wr_B303, rd_B304, wr_B304, rd_B305, wr_B305, rd_B306, wr_B306, rd_B307, wr_B307, rd_Tv9, wr_Tv9, ↓isO_M, ↓gL_H, ↓pL_H, ↓gI_M1, ↓gI_M2, ↓gI_M3, ↓gI_M4, ↓gI_M5, ↓gI_M6, ↓gI_M13, ↓gI_M22, ↓gI_M23, ↓gI_M24, ↓gI_M25, ↓gI_M27, ↓gI_M28, ↓gI_M29, ↓gI_M30, ↓gI_M31, ↓gI_M32, ↓gI_M33, ↓gI_M34, ↓gI_M35, ↓gI_M40, ↓gI_M41, ↓gI_M42, ↓gI_M43, ↓pV_M1, ↓pV_M2, ↓pV_M3, ↓pV_M4, ↓pV_M5, ↓pV_M6, ↓pV_M13, ↓pV_M22, ↓pV_M23, ↓pV_M24, ↓pV_M25, ↓pV_M27, ↓pV_M28, ↓pV_M29, ↓pV_M30, ↓pV_M31, ↓pV_M32, ↓pV_M33, ↓pV_M34, ↓pV_M35, ↓pV_M40, ↓pV_M41, ↓pV_M42, ↓pV_M43, ↓gR_M0, ↓gR_M7, ↓gR_M8, ↓gR_M9, ↓gR_M10, ↓gR_M11, ↓gR_M12, ↓gR_M14, ↓gR_M15, ↓gR_M16, ↓gR_M17, ↓gR_M18, ↓gR_M19, ↓gR_M20, ↓gR_M21, ↓gR_M36, ↓gR_M37, ↓gR_M38, ↓gR_M39, ↓rd_M1, ↓rd_M2, ↓rd_M3, ↓rd_M4, ↓rd_M5, ↓rd_M6, ↓rd_M7, ↓rd_M8, ↓rd_M9, ↓rd_M10, ↓rd_M11, ↓rd_M12, ↓rd_M13, ↓rd_M14, ↓rd_M15, ↓rd_M16, ↓rd_M17, ↓rd_M18, ↓rd_M19, ↓wr_M1, ↓wr_M2, ↓wr_M3, ↓wr_M4, ↓wr_M5, ↓wr_M6, ↓wr_M7, ↓wr_M8, ↓wr_M9, ↓wr_M10, ↓wr_M11, ↓wr_M12, ↓wr_M13, ↓wr_M14, ↓wr_M15, ↓wr_M16, ↓wr_M17, ↓wr_M18, ↓wr_M19, pL_H, pV_M1, pV_M2, pV_M3, pV_M4, pV_M5, pV_M6, pV_M13, pV_M22, pV_M23, pV_M24, pV_M25, pV_M27, pV_M28, pV_M29, pV_M30, pV_M31, pV_M32, pV_M33, pV_M34, pV_M35, pV_M40, pV_M41, pV_M42, pV_M43, rd_M1, rd_M2, rd_M3, rd_M4, rd_M5, rd_M6, rd_M7, rd_M8, rd_M9, rd_M10, rd_M11, rd_M12, rd_M13, rd_M14, rd_M15, rd_M16, rd_M17, rd_M18, rd_M19, wr_M1, wr_M2, wr_M3, wr_M4, wr_M5, wr_M6, wr_M7, wr_M8, wr_M9, wr_M10, wr_M11, wr_M12, wr_M13, wr_M14, wr_M15, wr_M16, wr_M17, wr_M18, wr_M19, J_l, J_neg, J_add, J_sub, J_mul, J_lt, J_le, J_eq, J_div2, J_rem2, J_shl1, J_orp, J_or, J_and, J_shr, J_ushr, J_max, J_min, J_abs, J_b0, ↓b0_ite, ↓b0_ite2, b0_ite, bI_r, bV_r, b01_ite, ite_true, ite_false, rZ_b, K_l, J_long, M_in, D_isLine hP.2.2.2.2.1 hn hl, M_isLine2 rfl hn hl]
  by_cases h1 : 0 ≤ l ∧ l < m 0 6
  · rw [if_pos h1, if_pos h1]
    obtain ⟨hLn, hv1⟩ := now_line hP.2 h1 hn.2
    have hG := hP.1.1 l h1.1 h1.2
    have hb := hG.1
    have bT := hb.2.1
    have bL := len_bd hb
    have xT := hv1.2.1
    have kD : qLn_unevenness (z + (11 + 3 * l.toNat)) (hi z TD g w s) = rI (J (mx (gapW (m 3) l) (cT (m 3) l - 1) - mn (gapW (m 3) l) (cT (m 3) l - 1))) (hi z TD g w s) := by
      unfold qLn_unevenness
      simp (disch := first | assumption | omega) only [↓isO_L, ↓gI_L0, ↓pV_L0, ↓gI_L1, ↓pV_L1, ↓gI_L2, ↓pV_L2, ↓gI_L3, ↓pV_L3, ↓gR_L4, ↓rd_L4, ↓wr_L4, ↓gR_L5, ↓rd_L5, ↓wr_L5, pV_L0, pV_L1, pV_L2, pV_L3, rd_L4, wr_L4, rd_L5, wr_L5, J_l, J_neg, J_add, J_sub, J_mul, J_lt, J_le, J_eq, J_div2, J_rem2, J_shl1, J_orp, J_or, J_and, J_shr, J_ushr, J_max, J_min, J_abs, J_b0, ↓b0_ite, ↓b0_ite2, b0_ite, bI_r, bV_r, b01_ite, ite_true, ite_false, rZ_b, K_l, J_long, M_in, L_steps hLn hv1 hb]
      have key := loopI (S := Int) (fun N i => qLn_unevenness_12 N (z + (11 + 3 * l.toNat)) (J (len (m 3) l)) (J (mx (gapW (m 3) l) i)) (J (min (len (m 3) l) (mn (gapW (m 3) l) i))) (J (i + 1)) (hi z TD g w s)) (fun X => X = rI (J (mx (gapW (m 3) l) (cT (m 3) l - 1) - mn (gapW (m 3) l) (cT (m 3) l - 1))) (hi z TD g w s)) (fun i => 0 ≤ i ∧ i ≤ cT (m 3) l - 1) (fun i => cT (m 3) l - 1 - i) (by intro p hp; omega) (fun N i hi0 ih => by
        show qLn_unevenness_12_b (qLn_unevenness_12 N) (z + (11 + 3 * l.toNat)) _ _ _ (J (i + 1)) (hi z TD g w s) = _
        unfold qLn_unevenness_12_b
        have mb := mn_bd hG i hi0.1 hi0.2
        simp (disch := first | assumption | omega) only [↓isO_L, ↓gI_L0, ↓pV_L0, ↓gI_L1, ↓pV_L1, ↓gI_L2, ↓pV_L2, ↓gI_L3, ↓pV_L3, ↓gR_L4, ↓rd_L4, ↓wr_L4, ↓gR_L5, ↓rd_L5, ↓wr_L5, pV_L0, pV_L1, pV_L2, pV_L3, rd_L4, wr_L4, rd_L5, wr_L5, J_l, J_neg, J_add, J_sub, J_mul, J_lt, J_le, J_eq, J_div2, J_rem2, J_shl1, J_orp, J_or, J_and, J_shr, J_ushr, J_max, J_min, J_abs, J_b0, ↓b0_ite, ↓b0_ite2, b0_ite, bI_r, bV_r, b01_ite, ite_true, ite_false, rZ_b, K_l, J_long, M_in, xT]
        by_cases hc : i < cT (m 3) l - 1
        · have hnext := ih (i + 1) (by omega) (by omega)
          rw [mx_s hi0.1, mn_s hi0.1] at hnext
          have gi := gap_in hG hi0.1 (by omega)
          have eg : st (m 3) l (i + 1) - st (m 3) l i = gapW (m 3) l i := rfl
          rw [if_pos (by omega)]
          simp (disch := first | assumption | omega) only [↓isO_L, ↓gI_L0, ↓pV_L0, ↓gI_L1, ↓pV_L1, ↓gI_L2, ↓pV_L2, ↓gI_L3, ↓pV_L3, ↓gR_L4, ↓rd_L4, ↓wr_L4, ↓gR_L5, ↓rd_L5, ↓wr_L5, pV_L0, pV_L1, pV_L2, pV_L3, rd_L4, wr_L4, rd_L5, wr_L5, J_l, J_neg, J_add, J_sub, J_mul, J_lt, J_le, J_eq, J_div2, J_rem2, J_shl1, J_orp, J_or, J_and, J_shr, J_ushr, J_max, J_min, J_abs, J_b0, ↓b0_ite, ↓b0_ite2, b0_ite, bI_r, bV_r, b01_ite, ite_true, ite_false, rZ_b, K_l, J_long, M_in, L_stepOfStation hLn hv1 hb (i := i + 1) ⟨by omega, by omega⟩]
          rw [show i + 1 - 1 = i by omega]
          simp (disch := first | assumption | omega) only [↓isO_L, ↓gI_L0, ↓pV_L0, ↓gI_L1, ↓pV_L1, ↓gI_L2, ↓pV_L2, ↓gI_L3, ↓pV_L3, ↓gR_L4, ↓rd_L4, ↓wr_L4, ↓gR_L5, ↓rd_L5, ↓wr_L5, pV_L0, pV_L1, pV_L2, pV_L3, rd_L4, wr_L4, rd_L5, wr_L5, J_l, J_neg, J_add, J_sub, J_mul, J_lt, J_le, J_eq, J_div2, J_rem2, J_shl1, J_orp, J_or, J_and, J_shr, J_ushr, J_max, J_min, J_abs, J_b0, ↓b0_ite, ↓b0_ite2, b0_ite, bI_r, bV_r, b01_ite, ite_true, ite_false, rZ_b, K_l, J_long, M_in, L_stepOfStation hLn hv1 hb (i := i) ⟨by omega, by omega⟩, eg]
          rw [show min (min (len (m 3) l) (mn (gapW (m 3) l) i)) (gapW (m 3) l i) = min (len (m 3) l) (min (mn (gapW (m 3) l) i) (gapW (m 3) l i)) by omega]
          exact hnext
        · rw [if_neg (by omega), show i = cT (m 3) l - 1 by omega]
          have := (mn_bd hG (cT (m 3) l - 1) (by omega) (by omega)).2.2.1 (by omega)
          rw [Int.min_eq_right this]) 0 (by omega) (by omega)
      have e0 : min (len (m 3) l) (mn (gapW (m 3) l) 0) = len (m 3) l := by
        show min (len (m 3) l) 1000000 = len (m 3) l
        omega
      rw [e0] at key
      exact key
    have f3 : m1 3 = m 3 := l1.fo (by decide)
    have xx := l1.2.1 l h1.1 h1.2
    have kst : ∀ t, 0 ≤ t → t < 20 → qM_stepsTo y (J l) (J t) (hi y TM g' w' m1) = rI (J (st (m 3) l t)) (hi y TM g' w' m1) := fun t t1 t2 => by
      have := M_stepsTo (y := y) (g := g') (w := w') (m := m1) (l := l) (t := t) (by omega) (by rw [f3]; exact hG) (by rw [f3]; exact xx.1) ⟨t1, t2⟩
      rw [f3] at this
      exact this
    have kM := loopI (S := Int) (fun N i => qM_uneven_23 N y (J l) (J (mn (gapW (m 3) l) i)) (J (mx (gapW (m 3) l) i)) (J (i + 1)) (hi y TM g' w' m1)) (fun X => X = rI (J (mx (gapW (m 3) l) (cT (m 3) l - 1) - mn (gapW (m 3) l) (cT (m 3) l - 1))) (hi y TM g' w' m1)) (fun i => 0 ≤ i ∧ i ≤ cT (m 3) l - 1) (fun i => cT (m 3) l - 1 - i) (by intro p hp; omega) (fun N i hi0 ih => by
      show qM_uneven_23_b (qM_uneven_23 N) y (J l) _ _ (J (i + 1)) (hi y TM g' w' m1) = _
      unfold qM_uneven_23_b qM_uneven_65
      have mb := mn_bd hG i hi0.1 hi0.2
      simp (disch := first | assumption | omega) only [↓isO_M, ↓gL_H, ↓pL_H, ↓gI_M1, ↓gI_M2, ↓gI_M3, ↓gI_M4, ↓gI_M5, ↓gI_M6, ↓gI_M13, ↓gI_M22, ↓gI_M23, ↓gI_M24, ↓gI_M25, ↓gI_M27, ↓gI_M28, ↓gI_M29, ↓gI_M30, ↓gI_M31, ↓gI_M32, ↓gI_M33, ↓gI_M34, ↓gI_M35, ↓gI_M40, ↓gI_M41, ↓gI_M42, ↓gI_M43, ↓pV_M1, ↓pV_M2, ↓pV_M3, ↓pV_M4, ↓pV_M5, ↓pV_M6, ↓pV_M13, ↓pV_M22, ↓pV_M23, ↓pV_M24, ↓pV_M25, ↓pV_M27, ↓pV_M28, ↓pV_M29, ↓pV_M30, ↓pV_M31, ↓pV_M32, ↓pV_M33, ↓pV_M34, ↓pV_M35, ↓pV_M40, ↓pV_M41, ↓pV_M42, ↓pV_M43, ↓gR_M0, ↓gR_M7, ↓gR_M8, ↓gR_M9, ↓gR_M10, ↓gR_M11, ↓gR_M12, ↓gR_M14, ↓gR_M15, ↓gR_M16, ↓gR_M17, ↓gR_M18, ↓gR_M19, ↓gR_M20, ↓gR_M21, ↓gR_M36, ↓gR_M37, ↓gR_M38, ↓gR_M39, ↓rd_M1, ↓rd_M2, ↓rd_M3, ↓rd_M4, ↓rd_M5, ↓rd_M6, ↓rd_M7, ↓rd_M8, ↓rd_M9, ↓rd_M10, ↓rd_M11, ↓rd_M12, ↓rd_M13, ↓rd_M14, ↓rd_M15, ↓rd_M16, ↓rd_M17, ↓rd_M18, ↓rd_M19, ↓wr_M1, ↓wr_M2, ↓wr_M3, ↓wr_M4, ↓wr_M5, ↓wr_M6, ↓wr_M7, ↓wr_M8, ↓wr_M9, ↓wr_M10, ↓wr_M11, ↓wr_M12, ↓wr_M13, ↓wr_M14, ↓wr_M15, ↓wr_M16, ↓wr_M17, ↓wr_M18, ↓wr_M19, pL_H, pV_M1, pV_M2, pV_M3, pV_M4, pV_M5, pV_M6, pV_M13, pV_M22, pV_M23, pV_M24, pV_M25, pV_M27, pV_M28, pV_M29, pV_M30, pV_M31, pV_M32, pV_M33, pV_M34, pV_M35, pV_M40, pV_M41, pV_M42, pV_M43, rd_M1, rd_M2, rd_M3, rd_M4, rd_M5, rd_M6, rd_M7, rd_M8, rd_M9, rd_M10, rd_M11, rd_M12, rd_M13, rd_M14, rd_M15, rd_M16, rd_M17, rd_M18, rd_M19, wr_M1, wr_M2, wr_M3, wr_M4, wr_M5, wr_M6, wr_M7, wr_M8, wr_M9, wr_M10, wr_M11, wr_M12, wr_M13, wr_M14, wr_M15, wr_M16, wr_M17, wr_M18, wr_M19, J_l, J_neg, J_add, J_sub, J_mul, J_lt, J_le, J_eq, J_div2, J_rem2, J_shl1, J_orp, J_or, J_and, J_shr, J_ushr, J_max, J_min, J_abs, J_b0, ↓b0_ite, ↓b0_ite2, b0_ite, bI_r, bV_r, b01_ite, ite_true, ite_false, rZ_b, K_l, J_long, M_in, M_oT, f3]
      by_cases hc : i < cT (m 3) l - 1
      · have hnext := ih (i + 1) (by omega) (by omega)
        rw [mx_s hi0.1, mn_s hi0.1] at hnext
        have gi := gap_in hG hi0.1 (by omega)
        have eg : st (m 3) l (i + 1) - st (m 3) l i = gapW (m 3) l i := rfl
        rw [if_pos (by omega), kst (i + 1) (by omega) (by omega), show i + 1 - 1 = i by omega]
        simp (disch := first | assumption | omega) only [↓isO_M, ↓gL_H, ↓pL_H, ↓gI_M1, ↓gI_M2, ↓gI_M3, ↓gI_M4, ↓gI_M5, ↓gI_M6, ↓gI_M13, ↓gI_M22, ↓gI_M23, ↓gI_M24, ↓gI_M25, ↓gI_M27, ↓gI_M28, ↓gI_M29, ↓gI_M30, ↓gI_M31, ↓gI_M32, ↓gI_M33, ↓gI_M34, ↓gI_M35, ↓gI_M40, ↓gI_M41, ↓gI_M42, ↓gI_M43, ↓pV_M1, ↓pV_M2, ↓pV_M3, ↓pV_M4, ↓pV_M5, ↓pV_M6, ↓pV_M13, ↓pV_M22, ↓pV_M23, ↓pV_M24, ↓pV_M25, ↓pV_M27, ↓pV_M28, ↓pV_M29, ↓pV_M30, ↓pV_M31, ↓pV_M32, ↓pV_M33, ↓pV_M34, ↓pV_M35, ↓pV_M40, ↓pV_M41, ↓pV_M42, ↓pV_M43, ↓gR_M0, ↓gR_M7, ↓gR_M8, ↓gR_M9, ↓gR_M10, ↓gR_M11, ↓gR_M12, ↓gR_M14, ↓gR_M15, ↓gR_M16, ↓gR_M17, ↓gR_M18, ↓gR_M19, ↓gR_M20, ↓gR_M21, ↓gR_M36, ↓gR_M37, ↓gR_M38, ↓gR_M39, ↓rd_M1, ↓rd_M2, ↓rd_M3, ↓rd_M4, ↓rd_M5, ↓rd_M6, ↓rd_M7, ↓rd_M8, ↓rd_M9, ↓rd_M10, ↓rd_M11, ↓rd_M12, ↓rd_M13, ↓rd_M14, ↓rd_M15, ↓rd_M16, ↓rd_M17, ↓rd_M18, ↓rd_M19, ↓wr_M1, ↓wr_M2, ↓wr_M3, ↓wr_M4, ↓wr_M5, ↓wr_M6, ↓wr_M7, ↓wr_M8, ↓wr_M9, ↓wr_M10, ↓wr_M11, ↓wr_M12, ↓wr_M13, ↓wr_M14, ↓wr_M15, ↓wr_M16, ↓wr_M17, ↓wr_M18, ↓wr_M19, pL_H, pV_M1, pV_M2, pV_M3, pV_M4, pV_M5, pV_M6, pV_M13, pV_M22, pV_M23, pV_M24, pV_M25, pV_M27, pV_M28, pV_M29, pV_M30, pV_M31, pV_M32, pV_M33, pV_M34, pV_M35, pV_M40, pV_M41, pV_M42, pV_M43, rd_M1, rd_M2, rd_M3, rd_M4, rd_M5, rd_M6, rd_M7, rd_M8, rd_M9, rd_M10, rd_M11, rd_M12, rd_M13, rd_M14, rd_M15, rd_M16, rd_M17, rd_M18, rd_M19, wr_M1, wr_M2, wr_M3, wr_M4, wr_M5, wr_M6, wr_M7, wr_M8, wr_M9, wr_M10, wr_M11, wr_M12, wr_M13, wr_M14, wr_M15, wr_M16, wr_M17, wr_M18, wr_M19, J_l, J_neg, J_add, J_sub, J_mul, J_lt, J_le, J_eq, J_div2, J_rem2, J_shl1, J_orp, J_or, J_and, J_shr, J_ushr, J_max, J_min, J_abs, J_b0, ↓b0_ite, ↓b0_ite2, b0_ite, bI_r, bV_r, b01_ite, ite_true, ite_false, rZ_b, K_l, J_long, M_in, kst i (by omega) (by omega), eg]
        by_cases q1 : gapW (m 3) l i < mn (gapW (m 3) l) i
        · rw [if_pos q1]
          rw [Int.min_eq_right (by omega)] at hnext
          by_cases q2 : mx (gapW (m 3) l) i < gapW (m 3) l i
          · rw [if_pos q2]
            rw [Int.max_eq_right (by omega)] at hnext
            exact hnext
          · rw [if_neg q2]
            rw [Int.max_eq_left (by omega)] at hnext
            exact hnext
        · rw [if_neg q1]
          rw [Int.min_eq_left (by omega)] at hnext
          by_cases q2 : mx (gapW (m 3) l) i < gapW (m 3) l i
          · rw [if_pos q2]
            rw [Int.max_eq_right (by omega)] at hnext
            exact hnext
          · rw [if_neg q2]
            rw [Int.max_eq_left (by omega)] at hnext
            exact hnext
      · rw [if_neg (by omega), show i = cT (m 3) l - 1 by omega]) 0 (by omega) (by omega)
    simp (disch := first | assumption | omega) only [↓gR_D0, ↓gR_D1, ↓gR_D2, ↓gR_D3, ↓gR_D4, ↓gR_D5, ↓gR_D6, ↓gR_D7, ↓gR_D8, ↓gR_D9, ↓gR_D10, ↓gI_D11, ↓pV_D11, ↓isO_D, ↓gI_T0, ↓pV_T0, ↓gR_T1, ↓isO_T, ↓rd_T2, ↓wr_T2, ↓gI_U0, ↓pV_U0, ↓gR_U1, ↓isO_U, ↓rd_U2, ↓wr_U2, ↓gI_Ps0, ↓pV_Ps0, ↓gI_Ps1, ↓pV_Ps1, ↓gI_Ps2, ↓pV_Ps2, ↓gI_Ps3, ↓pV_Ps3, ↓gI_Ps4, ↓pV_Ps4, ↓isO_Ps, ↓gI_N0, ↓pV_N0, ↓gI_N1, ↓pV_N1, ↓gI_N2, ↓pV_N2, ↓gI_N3, ↓pV_N3, ↓gR_N4, ↓gR_N5, ↓isO_N, ↓rd_NL, ↓gI_NB0, ↓pV_NB0, ↓gR_NB1, ↓gR_NB2, ↓isO_NB, ↓rd_NC, ↓wr_NC, ↓ln_NC, ↓rd_NP, ↓wr_NP, ↓ln_NP, ↓gI_V0, ↓pV_V0, ↓gI_V1, ↓pV_V1, ↓gI_V2, ↓pV_V2, ↓gI_V3, ↓pV_V3, ↓gR_V4, ↓gR_V5, ↓isO_V, ↓rd_VL, ↓gI_VB0, ↓pV_VB0, ↓gR_VB1, ↓gR_VB2, ↓isO_VB, ↓rd_VC, ↓wr_VC, ↓ln_VC, ↓rd_VP, ↓wr_VP, ↓ln_VP, ↓rd_SL, ↓rd_KP, ↓wr_KP, ↓gI_H0, ↓pV_H0, ↓gI_H1, ↓pV_H1, ↓gR_H2, ↓isO_H, ↓rd_HP, ↓gI_B0, ↓pV_B0, ↓gI_B1, ↓pV_B1, ↓gR_B2, ↓gR_B3, ↓gR_B4, ↓gR_B5, ↓gR_B6, ↓gR_B7, ↓gR_B8, ↓isO_B, ↓rd_B301, ↓wr_B301, ↓ln_B301, ↓rd_B302, ↓wr_B302, ↓ln_B302, ↓rd_B303, ↓wr_B303, ↓ln_B303, ↓rd_B304, ↓wr_B304, ↓ln_B304, ↓rd_B305, ↓wr_B305, ↓ln_B305, ↓rd_B306, ↓wr_B306, ↓ln_B306, ↓rd_B307, ↓wr_B307, ↓ln_B307, ↓gR_Tv, ↓isO_Tv, ↓rd_Tv9, ↓wr_Tv9, ↓ln_Tv9, pV_D11, pV_T0, rd_T2, wr_T2, pV_U0, rd_U2, wr_U2, pV_Ps0, pV_Ps1, pV_Ps2, pV_Ps3, pV_Ps4, pV_N0, pV_N1, pV_N2, pV_N3, rd_NL, pV_NB0, rd_NC, wr_NC, rd_NP, wr_NP, pV_V0, pV_V1, pV_V2, pV_V3, rd_VL, pV_VB0, rd_VC, wr_VC, rd_VP, wr_VP, rd_SL, rd_KP, wr_KP, pV_H0, pV_H1, rd_HP, pV_B0, pV_B1, rd_B301, wr_B301, rd_B302, wr_B302, rd_B303, wr_B303, rd_B304, wr_B304, rd_B305, wr_B305, rd_B306, wr_B306, rd_B307, wr_B307, rd_Tv9, wr_Tv9, ↓isO_L, ↓gI_L0, ↓pV_L0, ↓gI_L1, ↓pV_L1, ↓gI_L2, ↓pV_L2, ↓gI_L3, ↓pV_L3, ↓gR_L4, ↓rd_L4, ↓wr_L4, ↓gR_L5, ↓rd_L5, ↓wr_L5, pV_L0, pV_L1, pV_L2, pV_L3, rd_L4, wr_L4, rd_L5, wr_L5, ↓isO_M, ↓gL_H, ↓pL_H, ↓gI_M1, ↓gI_M2, ↓gI_M3, ↓gI_M4, ↓gI_M5, ↓gI_M6, ↓gI_M13, ↓gI_M22, ↓gI_M23, ↓gI_M24, ↓gI_M25, ↓gI_M27, ↓gI_M28, ↓gI_M29, ↓gI_M30, ↓gI_M31, ↓gI_M32, ↓gI_M33, ↓gI_M34, ↓gI_M35, ↓gI_M40, ↓gI_M41, ↓gI_M42, ↓gI_M43, ↓pV_M1, ↓pV_M2, ↓pV_M3, ↓pV_M4, ↓pV_M5, ↓pV_M6, ↓pV_M13, ↓pV_M22, ↓pV_M23, ↓pV_M24, ↓pV_M25, ↓pV_M27, ↓pV_M28, ↓pV_M29, ↓pV_M30, ↓pV_M31, ↓pV_M32, ↓pV_M33, ↓pV_M34, ↓pV_M35, ↓pV_M40, ↓pV_M41, ↓pV_M42, ↓pV_M43, ↓gR_M0, ↓gR_M7, ↓gR_M8, ↓gR_M9, ↓gR_M10, ↓gR_M11, ↓gR_M12, ↓gR_M14, ↓gR_M15, ↓gR_M16, ↓gR_M17, ↓gR_M18, ↓gR_M19, ↓gR_M20, ↓gR_M21, ↓gR_M36, ↓gR_M37, ↓gR_M38, ↓gR_M39, ↓rd_M1, ↓rd_M2, ↓rd_M3, ↓rd_M4, ↓rd_M5, ↓rd_M6, ↓rd_M7, ↓rd_M8, ↓rd_M9, ↓rd_M10, ↓rd_M11, ↓rd_M12, ↓rd_M13, ↓rd_M14, ↓rd_M15, ↓rd_M16, ↓rd_M17, ↓rd_M18, ↓rd_M19, ↓wr_M1, ↓wr_M2, ↓wr_M3, ↓wr_M4, ↓wr_M5, ↓wr_M6, ↓wr_M7, ↓wr_M8, ↓wr_M9, ↓wr_M10, ↓wr_M11, ↓wr_M12, ↓wr_M13, ↓wr_M14, ↓wr_M15, ↓wr_M16, ↓wr_M17, ↓wr_M18, ↓wr_M19, pL_H, pV_M1, pV_M2, pV_M3, pV_M4, pV_M5, pV_M6, pV_M13, pV_M22, pV_M23, pV_M24, pV_M25, pV_M27, pV_M28, pV_M29, pV_M30, pV_M31, pV_M32, pV_M33, pV_M34, pV_M35, pV_M40, pV_M41, pV_M42, pV_M43, rd_M1, rd_M2, rd_M3, rd_M4, rd_M5, rd_M6, rd_M7, rd_M8, rd_M9, rd_M10, rd_M11, rd_M12, rd_M13, rd_M14, rd_M15, rd_M16, rd_M17, rd_M18, rd_M19, wr_M1, wr_M2, wr_M3, wr_M4, wr_M5, wr_M6, wr_M7, wr_M8, wr_M9, wr_M10, wr_M11, wr_M12, wr_M13, wr_M14, wr_M15, wr_M16, wr_M17, wr_M18, wr_M19, J_l, J_neg, J_add, J_sub, J_mul, J_lt, J_le, J_eq, J_div2, J_rem2, J_shl1, J_orp, J_or, J_and, J_shr, J_ushr, J_max, J_min, J_abs, J_b0, ↓b0_ite, ↓b0_ite2, b0_ite, bI_r, bV_r, b01_ite, ite_true, ite_false, rZ_b, K_l, J_long, M_in, kD, e1]
    exact B_keep hIk rfl kM KeepS.refl hk1
  · rw [if_neg h1, if_neg h1]
    exact B_keep hIk rfl rfl KeepS.refl KeepM.refl
end LQ
