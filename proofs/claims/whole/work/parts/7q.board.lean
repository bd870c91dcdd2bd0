/-! the board's line of a setup text -/
section BH
variable {z y : Nat} {g g' : XH} {w w' : Int64} {s s' s0 s1 s2 m m' m0 m1 m2 : CT} {G W W' V W1 row row' r0 nm lo lg sn f : Int → Int} {wd hg mt c i j l n p v t k x xx yy N q o to : Int} {a b : Nat} {h : XH}
variable {k r u e d lw up st : Int} {w1 w2 w3 : Int64}
theorem FMm_w (hi0 : 30 ≤ i) : FMm m (rs m 0 (ru (m 0) i v)) := ⟨fun o a _ _ => rs_ne a, fun j a => by rw [rs_same, ru_ne (by omega)], fun q => by
  rw [rs_same, ru_ne (by omega)] at q
  exact ⟨q, by rw [rs_same, ru_ne (by omega)]⟩⟩
theorem rest_nf32 (h : m 0 29 = 0) : ∃ m', (pV (hi y TM g w m) y 9 32 (.int (J v)) (fun h10 => gI h10 y 9 25 (fun v11 => if v11 = (4 : Int32) then (qM_readAll_56 y (1 : Int32) y h10) else qM_readAll_56 y (0 : Int32) y h10))) = qM_readAll_59 LF y (hi y TM g w m') ∧ m' 0 29 = 0 ∧ m' 0 2 = m 0 2 ∧ FMm m m' := by
  have h2 : rs m 0 (ru (m 0) 32 v) 0 29 = 0 := by rw [rs_same, ru_ne (by decide)]; exact h
  refine ⟨rs m 0 (ru (m 0) 32 v), ?_, h2, by rw [rs_same, ru_ne (by decide)], FMm_w (by omega)⟩
  rw [pV_M32, gI_M25]
  unfold qM_readAll_56
  split <;> rw [isO_M, takes_nf h2, bV_r]
theorem rest_nf31 (h : m 0 29 = 0) : ∃ m', (pV (hi y TM g w m) y 9 31 (.int (J v)) (fun h7 => isO h7 y 9 (bI (qM_numberOf y (677454 : Int64) (0 : Int32) (3 : Int32) h7) (fun v9 h8 => pV h8 y 9 32 (.int v9) (fun h10 => gI h10 y 9 25 (fun v11 => if v11 = (4 : Int32) then (qM_readAll_56 y (1 : Int32) y h10) else qM_readAll_56 y (0 : Int32) y h10)))))) = qM_readAll_59 LF y (hi y TM g w m') ∧ m' 0 29 = 0 ∧ m' 0 2 = m 0 2 ∧ FMm m m' := by
  have h2 : rs m 0 (ru (m 0) 31 v) 0 29 = 0 := by rw [rs_same, ru_ne (by decide)]; exact h
  rw [pV_M31, isO_M, numberOf_nf h2, bI_r]
  obtain ⟨m', e1, e2, e3, e4⟩ := rest_nf32 (y := y) (g := g) (w := w) (v := rs m 0 (ru (m 0) 31 v) 0 27) h2
  exact ⟨m', e1, e2, by rw [e3, rs_same, ru_ne (by decide)], FMm.trans (FMm_w (by omega)) e4⟩
theorem rest_nf30 (h : m 0 29 = 0) : ∃ m', (pV (hi y TM g w m) y 9 30 (.int (J v)) (fun h4 => isO h4 y 9 (bI (qM_numberIn y (4 : Int32) (40 : Int32) h4) (fun v6 h5 => pV h5 y 9 31 (.int v6) (fun h7 => isO h7 y 9 (bI (qM_numberOf y (677454 : Int64) (0 : Int32) (3 : Int32) h7) (fun v9 h8 => pV h8 y 9 32 (.int v9) (fun h10 => gI h10 y 9 25 (fun v11 => if v11 = (4 : Int32) then (qM_readAll_56 y (1 : Int32) y h10) else qM_readAll_56 y (0 : Int32) y h10))))))))) = qM_readAll_59 LF y (hi y TM g w m') ∧ m' 0 29 = 0 ∧ m' 0 2 = m 0 2 ∧ FMm m m' := by
  have h2 : rs m 0 (ru (m 0) 30 v) 0 29 = 0 := by rw [rs_same, ru_ne (by decide)]; exact h
  rw [pV_M30, isO_M, numberIn_nf h2, bI_r]
  obtain ⟨m', e1, e2, e3, e4⟩ := rest_nf31 (y := y) (g := g) (w := w) (v := rs m 0 (ru (m 0) 30 v) 0 27) h2
  exact ⟨m', e1, e2, by rw [e3, rs_same, ru_ne (by decide)], FMm.trans (FMm_w (by omega)) e4⟩
/-- headers alike -/
def HdS (s m : CT) : Prop := (s 35 0 = m 0 30 ∧ s 35 1 = m 0 31 ∧ s 35 2 = m 0 32) ∧ (4 ≤ m 0 30 ∧ m 0 30 ≤ 40) ∧ (4 ≤ m 0 31 ∧ m 0 31 ≤ 40) ∧ (0 ≤ m 0 32 ∧ m 0 32 ≤ 3) ∧ s 37 0 = 0
theorem JL_w (h : JL s m w) (hi0 : 30 ≤ i) : JL s (rs m 0 (ru (m 0) i v)) w := by
  obtain ⟨⟨⟨t1, t2, t3⟩, a, b, c⟩, d⟩ := h
  unfold JL Lx TapeI
  rw [rs_ne (show (1 : Nat) ≠ 0 by decide), rs_same, ru_ne (show (1 : Int) ≠ i by omega), ru_ne (show (23 : Int) ≠ i by omega), ru_ne (show (24 : Int) ≠ i by omega), ru_ne (show (25 : Int) ≠ i by omega), ru_ne (show (27 : Int) ≠ i by omega), ru_ne (show (28 : Int) ≠ i by omega), ru_ne (show (29 : Int) ≠ i by omega)]
  exact ⟨⟨⟨t1, t2, t3⟩, a, b, c⟩, d⟩
theorem JL_s (h : JL s m w) (hs : ∀ o, o = 1 ∨ o = 2 ∨ o = 5 → s' o = s o) : JL s' m w := by
  obtain ⟨⟨⟨t1, t2, t3⟩, a, b, c⟩, d⟩ := h
  unfold JL Lx TapeI
  rw [hs 1 (by omega), hs 2 (by omega), hs 5 (by omega)]
  exact ⟨⟨⟨t1, t2, t3⟩, a, b, c⟩, d⟩
theorem NF_of (h : NF s m) (h1 : m' 0 29 = 0) (h2 : m' 0 2 = m 0 2) : NF s m' := by
  unfold NF at *
  rw [h1, h2]
  exact ⟨rfl, h.2⟩
theorem NF_w (h : NF s m) (hi0 : 30 ≤ i) : NF s (rs m 0 (ru (m 0) i v)) := NF_of h (by rw [rs_same, ru_ne (by omega)]; exact h.1) (by rw [rs_same, ru_ne (by omega)])
theorem fm_5 (h : ∀ o, o ≠ 5 → s' o = s o) : FC s s' := fun o ho => h o (by omega)
/-- what the class's begin writes -/
def bgS (s : CT) (wd hg mt : Int) : CT := rs (rs s 35 (ru (ru (ru (ru (s 35) 0 wd) 1 hg) 2 mt) 3 0)) 37 (ru (s 37) 0 0)
theorem C_beginV : qP_begin (z + 35) (J wd) (J hg) (J mt) (hi z TD g w s) = rV (hi z TD g w (bgS s wd hg mt)) := by
  unfold qP_begin bgS
  simp (disch := omega) only [↓gR_D0, ↓gR_D1, ↓gR_D2, ↓gR_D3, ↓gR_D4, ↓gR_D5, ↓gR_D6, ↓gR_D7, ↓gR_D8, ↓gR_D9, ↓gR_D10, ↓gI_D11, ↓pV_D11, ↓isO_D, ↓gI_T0, ↓pV_T0, ↓gR_T1, ↓isO_T, ↓rd_T2, ↓wr_T2, ↓gI_U0, ↓pV_U0, ↓gR_U1, ↓isO_U, ↓rd_U2, ↓wr_U2, ↓gI_Ps0, ↓pV_Ps0, ↓gI_Ps1, ↓pV_Ps1, ↓gI_Ps2, ↓pV_Ps2, ↓gI_Ps3, ↓pV_Ps3, ↓gI_Ps4, ↓pV_Ps4, ↓isO_Ps, ↓gI_N0, ↓pV_N0, ↓gI_N1, ↓pV_N1, ↓gI_N2, ↓pV_N2, ↓gI_N3, ↓pV_N3, ↓gR_N4, ↓gR_N5, ↓isO_N, ↓rd_NL, ↓gI_NB0, ↓pV_NB0, ↓gR_NB1, ↓gR_NB2, ↓isO_NB, ↓rd_NC, ↓wr_NC, ↓ln_NC, ↓rd_NP, ↓wr_NP, ↓ln_NP, ↓gI_V0, ↓pV_V0, ↓gI_V1, ↓pV_V1, ↓gI_V2, ↓pV_V2, ↓gI_V3, ↓pV_V3, ↓gR_V4, ↓gR_V5, ↓isO_V, ↓rd_VL, ↓gI_VB0, ↓pV_VB0, ↓gR_VB1, ↓gR_VB2, ↓isO_VB, ↓rd_VC, ↓wr_VC, ↓ln_VC, ↓rd_VP, ↓wr_VP, ↓ln_VP, ↓rd_SL, ↓rd_KP, ↓wr_KP, ↓gI_H0, ↓pV_H0, ↓gI_H1, ↓pV_H1, ↓gR_H2, ↓isO_H, ↓rd_HP, ↓gI_B0, ↓pV_B0, ↓gI_B1, ↓pV_B1, ↓gR_B2, ↓gR_B3, ↓gR_B4, ↓gR_B5, ↓gR_B6, ↓gR_B7, ↓gR_B8, ↓isO_B, ↓rd_B301, ↓wr_B301, ↓ln_B301, ↓rd_B302, ↓wr_B302, ↓ln_B302, ↓rd_B303, ↓wr_B303, ↓ln_B303, ↓rd_B304, ↓wr_B304, ↓ln_B304, ↓rd_B305, ↓wr_B305, ↓ln_B305, ↓rd_B306, ↓wr_B306, ↓ln_B306, ↓rd_B307, ↓wr_B307, ↓ln_B307, ↓gR_Tv, ↓isO_Tv, ↓rd_Tv9, ↓wr_Tv9, ↓ln_Tv9, pV_D11, pV_T0, rd_T2, wr_T2, pV_U0, rd_U2, wr_U2, pV_Ps0, pV_Ps1, pV_Ps2, pV_Ps3, pV_Ps4, pV_N0, pV_N1, pV_N2, pV_N3, rd_NL, pV_NB0, rd_NC, wr_NC, rd_NP, wr_NP, pV_V0, pV_V1, pV_V2, pV_V3, rd_VL, pV_VB0, rd_VC, wr_VC, rd_VP, wr_VP, rd_SL, rd_KP, wr_KP, pV_H0, pV_H1, rd_HP, pV_B0, pV_B1, rd_B301, wr_B301, rd_B302, wr_B302, rd_B303, wr_B303, rd_B304, wr_B304, rd_B305, wr_B305, rd_B306, wr_B306, rd_B307, wr_B307, rd_Tv9, wr_Tv9, J_l, J_neg, J_add, J_sub, J_mul, J_lt, J_le, J_eq, J_div2, J_rem2, J_shl1, J_orp, J_or, J_and, J_shr, J_ushr, J_max, J_min, J_abs, J_b0, ↓b0_ite, ↓b0_ite2, b0_ite, bI_r, bV_r, b01_ite, ite_true, ite_false, rZ_b, K_l, J_long, M_in, rs_same, rs_ne, rs_rs, ru_same, ru_ne, ne_eq]
theorem board_both (h : JL s m w') {m0 : CT} {w0 : Int64} (hgo : qM_goesOn y (hi y TM g' w0 m0) = rV (hi y TM g' w' m)) : (∃ s' m' w2, qPs_readBoard (z + 5) (z + 1) (z + 35) (hi z TD g w s) = rI (J 0) (hi z TD g w s') ∧ qM_readAll y (hi y TM g' w0 m0) = qM_readAll_59 LF y (hi y TM g' w2 m') ∧ NF s' m' ∧ FC s s' ∧ FMm m m') ∨ ∃ s' m' w2, qPs_readBoard (z + 5) (z + 1) (z + 35) (hi z TD g w s) = rI (J 1) (hi z TD g w s') ∧ qM_readAll y (hi y TM g' w0 m0) = qM_readAll_59 LF y (hi y TM g' w2 m') ∧ JL s' m' w2 ∧ FC s s' ∧ FMm m m' ∧ HdS s' m' ∧ s' 35 3 = 0 ∧ m' 0 33 = m 0 33 := by
  rcases of_both (z := z) (y := y) (g := g) (g' := g') (w := w) (k := 5) (lw := 4) (up := 40) h (by omega) (by omega) (by omega) with ⟨m1, w1, v, s1, f1, f2, f3, f4, f5⟩ | ⟨s1, s2, m2, w2, wd, f1, f2, f3, f4, f5, f6, f7, f8⟩
  · left
    have f1' : qM_numberOf y (2590276 : Int64) (4 : Int32) (40 : Int32) (hi y TM g' w' m) = rI (J v) (hi y TM g' w1 m1) := f1
    obtain ⟨m', e1, e2, e3, e4⟩ := rest_nf30 (y := y) (g := g') (w := w1) (v := v) f2.1
    refine ⟨s1, m', w1, ?_, ?_, NF_of f2 e2 e3, fm_5 f4, FMm.trans f3 e4⟩
    · unfold qPs_readBoard
      rcases f5 with f5 | ⟨s3, f5, f6⟩
      · simp (disch := omega) only [↓gR_D0, ↓gR_D1, ↓gR_D2, ↓gR_D3, ↓gR_D4, ↓gR_D5, ↓gR_D6, ↓gR_D7, ↓gR_D8, ↓gR_D9, ↓gR_D10, ↓gI_D11, ↓pV_D11, ↓isO_D, ↓gI_T0, ↓pV_T0, ↓gR_T1, ↓isO_T, ↓rd_T2, ↓wr_T2, ↓gI_U0, ↓pV_U0, ↓gR_U1, ↓isO_U, ↓rd_U2, ↓wr_U2, ↓gI_Ps0, ↓pV_Ps0, ↓gI_Ps1, ↓pV_Ps1, ↓gI_Ps2, ↓pV_Ps2, ↓gI_Ps3, ↓pV_Ps3, ↓gI_Ps4, ↓pV_Ps4, ↓isO_Ps, ↓gI_N0, ↓pV_N0, ↓gI_N1, ↓pV_N1, ↓gI_N2, ↓pV_N2, ↓gI_N3, ↓pV_N3, ↓gR_N4, ↓gR_N5, ↓isO_N, ↓rd_NL, ↓gI_NB0, ↓pV_NB0, ↓gR_NB1, ↓gR_NB2, ↓isO_NB, ↓rd_NC, ↓wr_NC, ↓ln_NC, ↓rd_NP, ↓wr_NP, ↓ln_NP, ↓gI_V0, ↓pV_V0, ↓gI_V1, ↓pV_V1, ↓gI_V2, ↓pV_V2, ↓gI_V3, ↓pV_V3, ↓gR_V4, ↓gR_V5, ↓isO_V, ↓rd_VL, ↓gI_VB0, ↓pV_VB0, ↓gR_VB1, ↓gR_VB2, ↓isO_VB, ↓rd_VC, ↓wr_VC, ↓ln_VC, ↓rd_VP, ↓wr_VP, ↓ln_VP, ↓rd_SL, ↓rd_KP, ↓wr_KP, ↓gI_H0, ↓pV_H0, ↓gI_H1, ↓pV_H1, ↓gR_H2, ↓isO_H, ↓rd_HP, ↓gI_B0, ↓pV_B0, ↓gI_B1, ↓pV_B1, ↓gR_B2, ↓gR_B3, ↓gR_B4, ↓gR_B5, ↓gR_B6, ↓gR_B7, ↓gR_B8, ↓isO_B, ↓rd_B301, ↓wr_B301, ↓ln_B301, ↓rd_B302, ↓wr_B302, ↓ln_B302, ↓rd_B303, ↓wr_B303, ↓ln_B303, ↓rd_B304, ↓wr_B304, ↓ln_B304, ↓rd_B305, ↓wr_B305, ↓ln_B305, ↓rd_B306, ↓wr_B306, ↓ln_B306, ↓rd_B307, ↓wr_B307, ↓ln_B307, ↓gR_Tv, ↓isO_Tv, ↓rd_Tv9, ↓wr_Tv9, ↓ln_Tv9, pV_D11, pV_T0, rd_T2, wr_T2, pV_U0, rd_U2, wr_U2, pV_Ps0, pV_Ps1, pV_Ps2, pV_Ps3, pV_Ps4, pV_N0, pV_N1, pV_N2, pV_N3, rd_NL, pV_NB0, rd_NC, wr_NC, rd_NP, wr_NP, pV_V0, pV_V1, pV_V2, pV_V3, rd_VL, pV_VB0, rd_VC, wr_VC, rd_VP, wr_VP, rd_SL, rd_KP, wr_KP, pV_H0, pV_H1, rd_HP, pV_B0, pV_B1, rd_B301, wr_B301, rd_B302, wr_B302, rd_B303, wr_B303, rd_B304, wr_B304, rd_B305, wr_B305, rd_B306, wr_B306, rd_B307, wr_B307, rd_Tv9, wr_Tv9, J_l, J_neg, J_add, J_sub, J_mul, J_lt, J_le, J_eq, J_div2, J_rem2, J_shl1, J_orp, J_or, J_and, J_shr, J_ushr, J_max, J_min, J_abs, J_b0, ↓b0_ite, ↓b0_ite2, b0_ite, bI_r, bV_r, b01_ite, ite_true, ite_false, rZ_b, K_l, J_long, M_in, f5]
      · simp (disch := omega) only [↓gR_D0, ↓gR_D1, ↓gR_D2, ↓gR_D3, ↓gR_D4, ↓gR_D5, ↓gR_D6, ↓gR_D7, ↓gR_D8, ↓gR_D9, ↓gR_D10, ↓gI_D11, ↓pV_D11, ↓isO_D, ↓gI_T0, ↓pV_T0, ↓gR_T1, ↓isO_T, ↓rd_T2, ↓wr_T2, ↓gI_U0, ↓pV_U0, ↓gR_U1, ↓isO_U, ↓rd_U2, ↓wr_U2, ↓gI_Ps0, ↓pV_Ps0, ↓gI_Ps1, ↓pV_Ps1, ↓gI_Ps2, ↓pV_Ps2, ↓gI_Ps3, ↓pV_Ps3, ↓gI_Ps4, ↓pV_Ps4, ↓isO_Ps, ↓gI_N0, ↓pV_N0, ↓gI_N1, ↓pV_N1, ↓gI_N2, ↓pV_N2, ↓gI_N3, ↓pV_N3, ↓gR_N4, ↓gR_N5, ↓isO_N, ↓rd_NL, ↓gI_NB0, ↓pV_NB0, ↓gR_NB1, ↓gR_NB2, ↓isO_NB, ↓rd_NC, ↓wr_NC, ↓ln_NC, ↓rd_NP, ↓wr_NP, ↓ln_NP, ↓gI_V0, ↓pV_V0, ↓gI_V1, ↓pV_V1, ↓gI_V2, ↓pV_V2, ↓gI_V3, ↓pV_V3, ↓gR_V4, ↓gR_V5, ↓isO_V, ↓rd_VL, ↓gI_VB0, ↓pV_VB0, ↓gR_VB1, ↓gR_VB2, ↓isO_VB, ↓rd_VC, ↓wr_VC, ↓ln_VC, ↓rd_VP, ↓wr_VP, ↓ln_VP, ↓rd_SL, ↓rd_KP, ↓wr_KP, ↓gI_H0, ↓pV_H0, ↓gI_H1, ↓pV_H1, ↓gR_H2, ↓isO_H, ↓rd_HP, ↓gI_B0, ↓pV_B0, ↓gI_B1, ↓pV_B1, ↓gR_B2, ↓gR_B3, ↓gR_B4, ↓gR_B5, ↓gR_B6, ↓gR_B7, ↓gR_B8, ↓isO_B, ↓rd_B301, ↓wr_B301, ↓ln_B301, ↓rd_B302, ↓wr_B302, ↓ln_B302, ↓rd_B303, ↓wr_B303, ↓ln_B303, ↓rd_B304, ↓wr_B304, ↓ln_B304, ↓rd_B305, ↓wr_B305, ↓ln_B305, ↓rd_B306, ↓wr_B306, ↓ln_B306, ↓rd_B307, ↓wr_B307, ↓ln_B307, ↓gR_Tv, ↓isO_Tv, ↓rd_Tv9, ↓wr_Tv9, ↓ln_Tv9, pV_D11, pV_T0, rd_T2, wr_T2, pV_U0, rd_U2, wr_U2, pV_Ps0, pV_Ps1, pV_Ps2, pV_Ps3, pV_Ps4, pV_N0, pV_N1, pV_N2, pV_N3, rd_NL, pV_NB0, rd_NC, wr_NC, rd_NP, wr_NP, pV_V0, pV_V1, pV_V2, pV_V3, rd_VL, pV_VB0, rd_VC, wr_VC, rd_VP, wr_VP, rd_SL, rd_KP, wr_KP, pV_H0, pV_H1, rd_HP, pV_B0, pV_B1, rd_B301, wr_B301, rd_B302, wr_B302, rd_B303, wr_B303, rd_B304, wr_B304, rd_B305, wr_B305, rd_B306, wr_B306, rd_B307, wr_B307, rd_Tv9, wr_Tv9, J_l, J_neg, J_add, J_sub, J_mul, J_lt, J_le, J_eq, J_div2, J_rem2, J_shl1, J_orp, J_or, J_and, J_shr, J_ushr, J_max, J_min, J_abs, J_b0, ↓b0_ite, ↓b0_ite2, b0_ite, bI_r, bV_r, b01_ite, ite_true, ite_false, rZ_b, K_l, J_long, M_in, I10, f5, f6]
    · unfold qM_readAll
      rw [isO_M, hgo, bV_r, isO_M, f1', bI_r]
      exact e1
  have f1' : qM_numberOf y (2590276 : Int64) (4 : Int32) (40 : Int32) (hi y TM g' w' m) = rI (J wd) (hi y TM g' w2 m2) := f1
  have j2 := JL_w (i := 30) (v := wd) f4 (by omega)
  have k2 : FMm m (rs m2 0 (ru (m2 0) 30 wd)) := FMm.trans f8.fm (FMm_w (by omega))
  -- the rows
  by_cases hn : s2 5 2 = 2 ∧ 4 ≤ rs m2 0 (ru (m2 0) 30 wd) 0 27 ∧ rs m2 0 (ru (m2 0) 30 wd) 0 27 ≤ 40
  · obtain ⟨s3, m3, w3, r1, r2, r3, r4, r5, r6⟩ := num_yes (z := z) (y := y) (g := g) (g' := g') (w := w) (lw := 4) (up := 40) j2 (by omega) (by omega) hn
    generalize rs m2 0 (ru (m2 0) 30 wd) 0 27 = hg at r2 r5 hn
    have r2' : qM_numberIn y (4 : Int32) (40 : Int32) (hi y TM g' w2 (rs m2 0 (ru (m2 0) 30 wd))) = rI (J hg) (hi y TM g' w3 m3) := r2
    have j3 := JL_w (i := 31) (v := hg) r3 (by omega)
    have k3 : FMm m (rs m3 0 (ru (m3 0) 31 hg)) := FMm.trans (FMm.trans k2 r6.fm) (FMm_w (by omega))
    rcases of_both (z := z) (y := y) (g := g) (g' := g') (w := w) (k := 6) (lw := 0) (up := 3) j3 (by omega) (by omega) (by omega) with ⟨m4, w4, v, s4, a1, a2, a3, a4, a5⟩ | ⟨s4, s5, m5, w5, mt, a1, a2, a3, a4, a5, a6, a7, a8⟩
    · left
      have a1' : qM_numberOf y (677454 : Int64) (0 : Int32) (3 : Int32) (hi y TM g' w3 (rs m3 0 (ru (m3 0) 31 hg))) = rI (J v) (hi y TM g' w4 m4) := a1
      obtain ⟨m', e1, e2, e3, e4⟩ := rest_nf32 (y := y) (g := g') (w := w4) (v := v) a2.1
      refine ⟨s4, m', w4, ?_, ?_, NF_of a2 e2 e3, FC.trans (FC.trans (fm_5 f5) (fm_5 r4)) (fm_5 a4), FMm.trans (FMm.trans k3 a3) e4⟩
      · unfold qPs_readBoard
        rcases a5 with a5 | ⟨s6, a5, a6⟩
        · simp (disch := omega) only [↓gR_D0, ↓gR_D1, ↓gR_D2, ↓gR_D3, ↓gR_D4, ↓gR_D5, ↓gR_D6, ↓gR_D7, ↓gR_D8, ↓gR_D9, ↓gR_D10, ↓gI_D11, ↓pV_D11, ↓isO_D, ↓gI_T0, ↓pV_T0, ↓gR_T1, ↓isO_T, ↓rd_T2, ↓wr_T2, ↓gI_U0, ↓pV_U0, ↓gR_U1, ↓isO_U, ↓rd_U2, ↓wr_U2, ↓gI_Ps0, ↓pV_Ps0, ↓gI_Ps1, ↓pV_Ps1, ↓gI_Ps2, ↓pV_Ps2, ↓gI_Ps3, ↓pV_Ps3, ↓gI_Ps4, ↓pV_Ps4, ↓isO_Ps, ↓gI_N0, ↓pV_N0, ↓gI_N1, ↓pV_N1, ↓gI_N2, ↓pV_N2, ↓gI_N3, ↓pV_N3, ↓gR_N4, ↓gR_N5, ↓isO_N, ↓rd_NL, ↓gI_NB0, ↓pV_NB0, ↓gR_NB1, ↓gR_NB2, ↓isO_NB, ↓rd_NC, ↓wr_NC, ↓ln_NC, ↓rd_NP, ↓wr_NP, ↓ln_NP, ↓gI_V0, ↓pV_V0, ↓gI_V1, ↓pV_V1, ↓gI_V2, ↓pV_V2, ↓gI_V3, ↓pV_V3, ↓gR_V4, ↓gR_V5, ↓isO_V, ↓rd_VL, ↓gI_VB0, ↓pV_VB0, ↓gR_VB1, ↓gR_VB2, ↓isO_VB, ↓rd_VC, ↓wr_VC, ↓ln_VC, ↓rd_VP, ↓wr_VP, ↓ln_VP, ↓rd_SL, ↓rd_KP, ↓wr_KP, ↓gI_H0, ↓pV_H0, ↓gI_H1, ↓pV_H1, ↓gR_H2, ↓isO_H, ↓rd_HP, ↓gI_B0, ↓pV_B0, ↓gI_B1, ↓pV_B1, ↓gR_B2, ↓gR_B3, ↓gR_B4, ↓gR_B5, ↓gR_B6, ↓gR_B7, ↓gR_B8, ↓isO_B, ↓rd_B301, ↓wr_B301, ↓ln_B301, ↓rd_B302, ↓wr_B302, ↓ln_B302, ↓rd_B303, ↓wr_B303, ↓ln_B303, ↓rd_B304, ↓wr_B304, ↓ln_B304, ↓rd_B305, ↓wr_B305, ↓ln_B305, ↓rd_B306, ↓wr_B306, ↓ln_B306, ↓rd_B307, ↓wr_B307, ↓ln_B307, ↓gR_Tv, ↓isO_Tv, ↓rd_Tv9, ↓wr_Tv9, ↓ln_Tv9, pV_D11, pV_T0, rd_T2, wr_T2, pV_U0, rd_U2, wr_U2, pV_Ps0, pV_Ps1, pV_Ps2, pV_Ps3, pV_Ps4, pV_N0, pV_N1, pV_N2, pV_N3, rd_NL, pV_NB0, rd_NC, wr_NC, rd_NP, wr_NP, pV_V0, pV_V1, pV_V2, pV_V3, rd_VL, pV_VB0, rd_VC, wr_VC, rd_VP, wr_VP, rd_SL, rd_KP, wr_KP, pV_H0, pV_H1, rd_HP, pV_B0, pV_B1, rd_B301, wr_B301, rd_B302, wr_B302, rd_B303, wr_B303, rd_B304, wr_B304, rd_B305, wr_B305, rd_B306, wr_B306, rd_B307, wr_B307, rd_Tv9, wr_Tv9, J_l, J_neg, J_add, J_sub, J_mul, J_lt, J_le, J_eq, J_div2, J_rem2, J_shl1, J_orp, J_or, J_and, J_shr, J_ushr, J_max, J_min, J_abs, J_b0, ↓b0_ite, ↓b0_ite2, b0_ite, bI_r, bV_r, b01_ite, ite_true, ite_false, rZ_b, K_l, J_long, M_in, I10, f2, f3, f6, r1, r5, a5]
        · simp (disch := omega) only [↓gR_D0, ↓gR_D1, ↓gR_D2, ↓gR_D3, ↓gR_D4, ↓gR_D5, ↓gR_D6, ↓gR_D7, ↓gR_D8, ↓gR_D9, ↓gR_D10, ↓gI_D11, ↓pV_D11, ↓isO_D, ↓gI_T0, ↓pV_T0, ↓gR_T1, ↓isO_T, ↓rd_T2, ↓wr_T2, ↓gI_U0, ↓pV_U0, ↓gR_U1, ↓isO_U, ↓rd_U2, ↓wr_U2, ↓gI_Ps0, ↓pV_Ps0, ↓gI_Ps1, ↓pV_Ps1, ↓gI_Ps2, ↓pV_Ps2, ↓gI_Ps3, ↓pV_Ps3, ↓gI_Ps4, ↓pV_Ps4, ↓isO_Ps, ↓gI_N0, ↓pV_N0, ↓gI_N1, ↓pV_N1, ↓gI_N2, ↓pV_N2, ↓gI_N3, ↓pV_N3, ↓gR_N4, ↓gR_N5, ↓isO_N, ↓rd_NL, ↓gI_NB0, ↓pV_NB0, ↓gR_NB1, ↓gR_NB2, ↓isO_NB, ↓rd_NC, ↓wr_NC, ↓ln_NC, ↓rd_NP, ↓wr_NP, ↓ln_NP, ↓gI_V0, ↓pV_V0, ↓gI_V1, ↓pV_V1, ↓gI_V2, ↓pV_V2, ↓gI_V3, ↓pV_V3, ↓gR_V4, ↓gR_V5, ↓isO_V, ↓rd_VL, ↓gI_VB0, ↓pV_VB0, ↓gR_VB1, ↓gR_VB2, ↓isO_VB, ↓rd_VC, ↓wr_VC, ↓ln_VC, ↓rd_VP, ↓wr_VP, ↓ln_VP, ↓rd_SL, ↓rd_KP, ↓wr_KP, ↓gI_H0, ↓pV_H0, ↓gI_H1, ↓pV_H1, ↓gR_H2, ↓isO_H, ↓rd_HP, ↓gI_B0, ↓pV_B0, ↓gI_B1, ↓pV_B1, ↓gR_B2, ↓gR_B3, ↓gR_B4, ↓gR_B5, ↓gR_B6, ↓gR_B7, ↓gR_B8, ↓isO_B, ↓rd_B301, ↓wr_B301, ↓ln_B301, ↓rd_B302, ↓wr_B302, ↓ln_B302, ↓rd_B303, ↓wr_B303, ↓ln_B303, ↓rd_B304, ↓wr_B304, ↓ln_B304, ↓rd_B305, ↓wr_B305, ↓ln_B305, ↓rd_B306, ↓wr_B306, ↓ln_B306, ↓rd_B307, ↓wr_B307, ↓ln_B307, ↓gR_Tv, ↓isO_Tv, ↓rd_Tv9, ↓wr_Tv9, ↓ln_Tv9, pV_D11, pV_T0, rd_T2, wr_T2, pV_U0, rd_U2, wr_U2, pV_Ps0, pV_Ps1, pV_Ps2, pV_Ps3, pV_Ps4, pV_N0, pV_N1, pV_N2, pV_N3, rd_NL, pV_NB0, rd_NC, wr_NC, rd_NP, wr_NP, pV_V0, pV_V1, pV_V2, pV_V3, rd_VL, pV_VB0, rd_VC, wr_VC, rd_VP, wr_VP, rd_SL, rd_KP, wr_KP, pV_H0, pV_H1, rd_HP, pV_B0, pV_B1, rd_B301, wr_B301, rd_B302, wr_B302, rd_B303, wr_B303, rd_B304, wr_B304, rd_B305, wr_B305, rd_B306, wr_B306, rd_B307, wr_B307, rd_Tv9, wr_Tv9, J_l, J_neg, J_add, J_sub, J_mul, J_lt, J_le, J_eq, J_div2, J_rem2, J_shl1, J_orp, J_or, J_and, J_shr, J_ushr, J_max, J_min, J_abs, J_b0, ↓b0_ite, ↓b0_ite2, b0_ite, bI_r, bV_r, b01_ite, ite_true, ite_false, rZ_b, K_l, J_long, M_in, I10, f2, f3, f6, r1, r5, a5, a6]
      · unfold qM_readAll
        rw [isO_M, hgo, bV_r, isO_M, f1', bI_r, pV_M30, isO_M, r2', bI_r, pV_M31, isO_M, a1', bI_r]
        exact e1
    · have a1' : qM_numberOf y (677454 : Int64) (0 : Int32) (3 : Int32) (hi y TM g' w3 (rs m3 0 (ru (m3 0) 31 hg))) = rI (J mt) (hi y TM g' w5 m5) := a1
      have j5 := JL_w (i := 32) (v := mt) a4 (by omega)
      have j6 : JL (bgS s5 wd hg mt) (rs m5 0 (ru (m5 0) 32 mt)) w5 := JL_s j5 (fun o ho => by unfold bgS; rw [rs_ne (by omega), rs_ne (by omega)])
      have k5 : FMm m (rs m5 0 (ru (m5 0) 32 mt)) := FMm.trans (FMm.trans k3 a8.fm) (FMm_w (by omega))
      have c5 : FC s (bgS s5 wd hg mt) := FC.trans (FC.trans (FC.trans (fm_5 f5) (fm_5 r4)) (fm_5 a5)) (fun o ho => by unfold bgS; rw [rs_ne (by omega), rs_ne (by omega)])
      -- fields of the header, on the model's side
      have x30 : rs m5 0 (ru (m5 0) 32 mt) 0 30 = wd := by
        rw [rs_same, ru_ne (by decide), a8.2 30 (by decide) (by decide) (by decide) (by decide) (by decide), rs_same, ru_ne (by decide), r6.2 30 (by decide) (by decide) (by decide) (by decide) (by decide), rs_same, ru_same]
      have x31 : rs m5 0 (ru (m5 0) 32 mt) 0 31 = hg := by
        rw [rs_same, ru_ne (by decide), a8.2 31 (by decide) (by decide) (by decide) (by decide) (by decide), rs_same, ru_same]
      have x32 : rs m5 0 (ru (m5 0) 32 mt) 0 32 = mt := by rw [rs_same, ru_same]
      have x33 : rs m5 0 (ru (m5 0) 32 mt) 0 33 = m 0 33 := by
        rw [rs_same, ru_ne (by decide), a8.2 33 (by decide) (by decide) (by decide) (by decide) (by decide), rs_same, ru_ne (by decide), r6.2 33 (by decide) (by decide) (by decide) (by decide) (by decide), rs_same, ru_ne (by decide), f8.2 33 (by decide) (by decide) (by decide) (by decide) (by decide)]
      have y35 : bgS s5 wd hg mt 35 0 = wd ∧ bgS s5 wd hg mt 35 1 = hg ∧ bgS s5 wd hg mt 35 2 = mt ∧ bgS s5 wd hg mt 35 3 = 0 ∧ bgS s5 wd hg mt 37 0 = 0 := by
        unfold bgS
        simp (disch := omega) only [rs_same, rs_ne, rs_rs, ru_same, ru_ne, ne_eq, and_self]
      have si := sign_iff j6
      by_cases h3 : bgS s5 wd hg mt 5 2 = 3
      · right
        obtain ⟨s7, m7, w7, b1, b2, b3, b4, b5⟩ := next_both (z := z) (y := y) (g := g) (g' := g') (w := w) j6
        have p1 := pass_yes (z := z) (g := g) (w := w) j6 (by omega) h3 b1
        have b2' : qM_takes y (1 : Int32) (hi y TM g' w5 (rs m5 0 (ru (m5 0) 32 mt))) = rV (hi y TM g' w7 m7) := b2
        refine ⟨s7, m7, w7, ?_, ?_, b3, FC.trans c5 b4.fc, FMm.trans k5 b5.fm, ?_, by rw [b4.1 35 (by decide)]; exact y35.2.2.2.1, by rw [b5.2 33 (by decide) (by decide) (by decide) (by decide) (by decide), x33]⟩
        · unfold qPs_readBoard
          simp (disch := omega) only [↓gR_D0, ↓gR_D1, ↓gR_D2, ↓gR_D3, ↓gR_D4, ↓gR_D5, ↓gR_D6, ↓gR_D7, ↓gR_D8, ↓gR_D9, ↓gR_D10, ↓gI_D11, ↓pV_D11, ↓isO_D, ↓gI_T0, ↓pV_T0, ↓gR_T1, ↓isO_T, ↓rd_T2, ↓wr_T2, ↓gI_U0, ↓pV_U0, ↓gR_U1, ↓isO_U, ↓rd_U2, ↓wr_U2, ↓gI_Ps0, ↓pV_Ps0, ↓gI_Ps1, ↓pV_Ps1, ↓gI_Ps2, ↓pV_Ps2, ↓gI_Ps3, ↓pV_Ps3, ↓gI_Ps4, ↓pV_Ps4, ↓isO_Ps, ↓gI_N0, ↓pV_N0, ↓gI_N1, ↓pV_N1, ↓gI_N2, ↓pV_N2, ↓gI_N3, ↓pV_N3, ↓gR_N4, ↓gR_N5, ↓isO_N, ↓rd_NL, ↓gI_NB0, ↓pV_NB0, ↓gR_NB1, ↓gR_NB2, ↓isO_NB, ↓rd_NC, ↓wr_NC, ↓ln_NC, ↓rd_NP, ↓wr_NP, ↓ln_NP, ↓gI_V0, ↓pV_V0, ↓gI_V1, ↓pV_V1, ↓gI_V2, ↓pV_V2, ↓gI_V3, ↓pV_V3, ↓gR_V4, ↓gR_V5, ↓isO_V, ↓rd_VL, ↓gI_VB0, ↓pV_VB0, ↓gR_VB1, ↓gR_VB2, ↓isO_VB, ↓rd_VC, ↓wr_VC, ↓ln_VC, ↓rd_VP, ↓wr_VP, ↓ln_VP, ↓rd_SL, ↓rd_KP, ↓wr_KP, ↓gI_H0, ↓pV_H0, ↓gI_H1, ↓pV_H1, ↓gR_H2, ↓isO_H, ↓rd_HP, ↓gI_B0, ↓pV_B0, ↓gI_B1, ↓pV_B1, ↓gR_B2, ↓gR_B3, ↓gR_B4, ↓gR_B5, ↓gR_B6, ↓gR_B7, ↓gR_B8, ↓isO_B, ↓rd_B301, ↓wr_B301, ↓ln_B301, ↓rd_B302, ↓wr_B302, ↓ln_B302, ↓rd_B303, ↓wr_B303, ↓ln_B303, ↓rd_B304, ↓wr_B304, ↓ln_B304, ↓rd_B305, ↓wr_B305, ↓ln_B305, ↓rd_B306, ↓wr_B306, ↓ln_B306, ↓rd_B307, ↓wr_B307, ↓ln_B307, ↓gR_Tv, ↓isO_Tv, ↓rd_Tv9, ↓wr_Tv9, ↓ln_Tv9, pV_D11, pV_T0, rd_T2, wr_T2, pV_U0, rd_U2, wr_U2, pV_Ps0, pV_Ps1, pV_Ps2, pV_Ps3, pV_Ps4, pV_N0, pV_N1, pV_N2, pV_N3, rd_NL, pV_NB0, rd_NC, wr_NC, rd_NP, wr_NP, pV_V0, pV_V1, pV_V2, pV_V3, rd_VL, pV_VB0, rd_VC, wr_VC, rd_VP, wr_VP, rd_SL, rd_KP, wr_KP, pV_H0, pV_H1, rd_HP, pV_B0, pV_B1, rd_B301, wr_B301, rd_B302, wr_B302, rd_B303, wr_B303, rd_B304, wr_B304, rd_B305, wr_B305, rd_B306, wr_B306, rd_B307, wr_B307, rd_Tv9, wr_Tv9, J_l, J_neg, J_add, J_sub, J_mul, J_lt, J_le, J_eq, J_div2, J_rem2, J_shl1, J_orp, J_or, J_and, J_shr, J_ushr, J_max, J_min, J_abs, J_b0, ↓b0_ite, ↓b0_ite2, b0_ite, bI_r, bV_r, b01_ite, ite_true, ite_false, rZ_b, K_l, J_long, M_in, I10, f2, f3, f6, r1, r5, a2, a3, a6, C_beginV, p1, rZ_1]
        · have si2 := si.mpr h3
          unfold qM_readAll qM_readAll_56
          rw [isO_M, hgo, bV_r, isO_M, f1', bI_r, pV_M30, isO_M, r2', bI_r, pV_M31, isO_M, a1', bI_r, pV_M32, gI_M25, si2, if_pos (show J 4 = (4 : Int32) from rfl), isO_M, b2', bV_r]
        · unfold HdS
          rw [b4.1 35 (by decide), b4.1 37 (by decide), b5.2 30 (by decide) (by decide) (by decide) (by decide) (by decide), b5.2 31 (by decide) (by decide) (by decide) (by decide) (by decide), b5.2 32 (by decide) (by decide) (by decide) (by decide) (by decide), x30, x31, x32]
          exact ⟨⟨y35.1, y35.2.1, y35.2.2.1⟩, f7, hn.2, a7, y35.2.2.2.2⟩
      · left
        have p1 := pass_no (z := z) (g := g) (w := w) (k := 3) j6 (by omega) h3
        have tf := takes_fail (y := y) (g := g') (w := w5) j6.2
        have tf' : qM_takes y (0 : Int32) (hi y TM g' w5 (rs m5 0 (ru (m5 0) 32 mt))) = rV (hi y TM g' w5 (failM (rs m5 0 (ru (m5 0) 32 mt)))) := tf
        refine ⟨bgS s5 wd hg mt, failM (rs m5 0 (ru (m5 0) 32 mt)), w5, ?_, ?_, failM_n j6, c5, FMm.trans k5 failM_f⟩
        · unfold qPs_readBoard
          simp (disch := omega) only [↓gR_D0, ↓gR_D1, ↓gR_D2, ↓gR_D3, ↓gR_D4, ↓gR_D5, ↓gR_D6, ↓gR_D7, ↓gR_D8, ↓gR_D9, ↓gR_D10, ↓gI_D11, ↓pV_D11, ↓isO_D, ↓gI_T0, ↓pV_T0, ↓gR_T1, ↓isO_T, ↓rd_T2, ↓wr_T2, ↓gI_U0, ↓pV_U0, ↓gR_U1, ↓isO_U, ↓rd_U2, ↓wr_U2, ↓gI_Ps0, ↓pV_Ps0, ↓gI_Ps1, ↓pV_Ps1, ↓gI_Ps2, ↓pV_Ps2, ↓gI_Ps3, ↓pV_Ps3, ↓gI_Ps4, ↓pV_Ps4, ↓isO_Ps, ↓gI_N0, ↓pV_N0, ↓gI_N1, ↓pV_N1, ↓gI_N2, ↓pV_N2, ↓gI_N3, ↓pV_N3, ↓gR_N4, ↓gR_N5, ↓isO_N, ↓rd_NL, ↓gI_NB0, ↓pV_NB0, ↓gR_NB1, ↓gR_NB2, ↓isO_NB, ↓rd_NC, ↓wr_NC, ↓ln_NC, ↓rd_NP, ↓wr_NP, ↓ln_NP, ↓gI_V0, ↓pV_V0, ↓gI_V1, ↓pV_V1, ↓gI_V2, ↓pV_V2, ↓gI_V3, ↓pV_V3, ↓gR_V4, ↓gR_V5, ↓isO_V, ↓rd_VL, ↓gI_VB0, ↓pV_VB0, ↓gR_VB1, ↓gR_VB2, ↓isO_VB, ↓rd_VC, ↓wr_VC, ↓ln_VC, ↓rd_VP, ↓wr_VP, ↓ln_VP, ↓rd_SL, ↓rd_KP, ↓wr_KP, ↓gI_H0, ↓pV_H0, ↓gI_H1, ↓pV_H1, ↓gR_H2, ↓isO_H, ↓rd_HP, ↓gI_B0, ↓pV_B0, ↓gI_B1, ↓pV_B1, ↓gR_B2, ↓gR_B3, ↓gR_B4, ↓gR_B5, ↓gR_B6, ↓gR_B7, ↓gR_B8, ↓isO_B, ↓rd_B301, ↓wr_B301, ↓ln_B301, ↓rd_B302, ↓wr_B302, ↓ln_B302, ↓rd_B303, ↓wr_B303, ↓ln_B303, ↓rd_B304, ↓wr_B304, ↓ln_B304, ↓rd_B305, ↓wr_B305, ↓ln_B305, ↓rd_B306, ↓wr_B306, ↓ln_B306, ↓rd_B307, ↓wr_B307, ↓ln_B307, ↓gR_Tv, ↓isO_Tv, ↓rd_Tv9, ↓wr_Tv9, ↓ln_Tv9, pV_D11, pV_T0, rd_T2, wr_T2, pV_U0, rd_U2, wr_U2, pV_Ps0, pV_Ps1, pV_Ps2, pV_Ps3, pV_Ps4, pV_N0, pV_N1, pV_N2, pV_N3, rd_NL, pV_NB0, rd_NC, wr_NC, rd_NP, wr_NP, pV_V0, pV_V1, pV_V2, pV_V3, rd_VL, pV_VB0, rd_VC, wr_VC, rd_VP, wr_VP, rd_SL, rd_KP, wr_KP, pV_H0, pV_H1, rd_HP, pV_B0, pV_B1, rd_B301, wr_B301, rd_B302, wr_B302, rd_B303, wr_B303, rd_B304, wr_B304, rd_B305, wr_B305, rd_B306, wr_B306, rd_B307, wr_B307, rd_Tv9, wr_Tv9, J_l, J_neg, J_add, J_sub, J_mul, J_lt, J_le, J_eq, J_div2, J_rem2, J_shl1, J_orp, J_or, J_and, J_shr, J_ushr, J_max, J_min, J_abs, J_b0, ↓b0_ite, ↓b0_ite2, b0_ite, bI_r, bV_r, b01_ite, ite_true, ite_false, rZ_b, K_l, J_long, M_in, I10, f2, f3, f6, r1, r5, a2, a3, a6, C_beginV, p1, rZ_0]
        · have tb := TkR_bd j6.1.2.2.2
          have ni : ¬J (rs m5 0 (ru (m5 0) 32 mt) 0 25) = (4 : Int32) := fun q => h3 (si.mp (by
            rw [show (4 : Int32) = J 4 from rfl, J_eq (by omega)] at q
            exact q))
          unfold qM_readAll qM_readAll_56
          rw [isO_M, hgo, bV_r, isO_M, f1', bI_r, pV_M30, isO_M, r2', bI_r, pV_M31, isO_M, a1', bI_r, pV_M32, gI_M25, if_neg ni, isO_M, tf', bV_r]
  · left
    obtain ⟨r1, r2⟩ := num_no (z := z) (y := y) (g := g) (g' := g') (w := w) (lw := 4) (up := 40) j2 (by omega) (by omega) hn
    have r2' : qM_numberIn y (4 : Int32) (40 : Int32) (hi y TM g' w2 (rs m2 0 (ru (m2 0) 30 wd))) = rI (J (rs m2 0 (ru (m2 0) 30 wd) 0 27)) (hi y TM g' w2 (failM (rs m2 0 (ru (m2 0) 30 wd)))) := r2
    have nf := failM_n j2
    obtain ⟨m', e1, e2, e3, e4⟩ := rest_nf31 (y := y) (g := g') (w := w2) (v := rs m2 0 (ru (m2 0) 30 wd) 0 27) nf.1
    refine ⟨s2, m', w2, ?_, ?_, NF_of nf e2 e3, fm_5 f5, FMm.trans (FMm.trans k2 failM_f) e4⟩
    · unfold qPs_readBoard
      simp (disch := omega) only [↓gR_D0, ↓gR_D1, ↓gR_D2, ↓gR_D3, ↓gR_D4, ↓gR_D5, ↓gR_D6, ↓gR_D7, ↓gR_D8, ↓gR_D9, ↓gR_D10, ↓gI_D11, ↓pV_D11, ↓isO_D, ↓gI_T0, ↓pV_T0, ↓gR_T1, ↓isO_T, ↓rd_T2, ↓wr_T2, ↓gI_U0, ↓pV_U0, ↓gR_U1, ↓isO_U, ↓rd_U2, ↓wr_U2, ↓gI_Ps0, ↓pV_Ps0, ↓gI_Ps1, ↓pV_Ps1, ↓gI_Ps2, ↓pV_Ps2, ↓gI_Ps3, ↓pV_Ps3, ↓gI_Ps4, ↓pV_Ps4, ↓isO_Ps, ↓gI_N0, ↓pV_N0, ↓gI_N1, ↓pV_N1, ↓gI_N2, ↓pV_N2, ↓gI_N3, ↓pV_N3, ↓gR_N4, ↓gR_N5, ↓isO_N, ↓rd_NL, ↓gI_NB0, ↓pV_NB0, ↓gR_NB1, ↓gR_NB2, ↓isO_NB, ↓rd_NC, ↓wr_NC, ↓ln_NC, ↓rd_NP, ↓wr_NP, ↓ln_NP, ↓gI_V0, ↓pV_V0, ↓gI_V1, ↓pV_V1, ↓gI_V2, ↓pV_V2, ↓gI_V3, ↓pV_V3, ↓gR_V4, ↓gR_V5, ↓isO_V, ↓rd_VL, ↓gI_VB0, ↓pV_VB0, ↓gR_VB1, ↓gR_VB2, ↓isO_VB, ↓rd_VC, ↓wr_VC, ↓ln_VC, ↓rd_VP, ↓wr_VP, ↓ln_VP, ↓rd_SL, ↓rd_KP, ↓wr_KP, ↓gI_H0, ↓pV_H0, ↓gI_H1, ↓pV_H1, ↓gR_H2, ↓isO_H, ↓rd_HP, ↓gI_B0, ↓pV_B0, ↓gI_B1, ↓pV_B1, ↓gR_B2, ↓gR_B3, ↓gR_B4, ↓gR_B5, ↓gR_B6, ↓gR_B7, ↓gR_B8, ↓isO_B, ↓rd_B301, ↓wr_B301, ↓ln_B301, ↓rd_B302, ↓wr_B302, ↓ln_B302, ↓rd_B303, ↓wr_B303, ↓ln_B303, ↓rd_B304, ↓wr_B304, ↓ln_B304, ↓rd_B305, ↓wr_B305, ↓ln_B305, ↓rd_B306, ↓wr_B306, ↓ln_B306, ↓rd_B307, ↓wr_B307, ↓ln_B307, ↓gR_Tv, ↓isO_Tv, ↓rd_Tv9, ↓wr_Tv9, ↓ln_Tv9, pV_D11, pV_T0, rd_T2, wr_T2, pV_U0, rd_U2, wr_U2, pV_Ps0, pV_Ps1, pV_Ps2, pV_Ps3, pV_Ps4, pV_N0, pV_N1, pV_N2, pV_N3, rd_NL, pV_NB0, rd_NC, wr_NC, rd_NP, wr_NP, pV_V0, pV_V1, pV_V2, pV_V3, rd_VL, pV_VB0, rd_VC, wr_VC, rd_VP, wr_VP, rd_SL, rd_KP, wr_KP, pV_H0, pV_H1, rd_HP, pV_B0, pV_B1, rd_B301, wr_B301, rd_B302, wr_B302, rd_B303, wr_B303, rd_B304, wr_B304, rd_B305, wr_B305, rd_B306, wr_B306, rd_B307, wr_B307, rd_Tv9, wr_Tv9, J_l, J_neg, J_add, J_sub, J_mul, J_lt, J_le, J_eq, J_div2, J_rem2, J_shl1, J_orp, J_or, J_and, J_shr, J_ushr, J_max, J_min, J_abs, J_b0, ↓b0_ite, ↓b0_ite2, b0_ite, bI_r, bV_r, b01_ite, ite_true, ite_false, rZ_b, K_l, J_long, M_in, I10, f2, f3, f6, r1]
    · unfold qM_readAll
      rw [isO_M, hgo, bV_r, isO_M, f1', bI_r, pV_M30, isO_M, r2', bI_r]
      exact e1
end BH
