/-! the class draws a line, and all -/
section CE
variable {z : Nat} {g : XH} {w : Int64} {s s0 : CT} {W : Int → Int} {l r k j c t n i v p : Int} {a b : Nat} {q : Int → Int} {h : XH}
/-- the lines before n are drawn -/
def Bd (W : Int → Int) (s0 s : CT) (n : Int) : Prop :=
  (∀ o, o ≠ 301 → o ≠ 302 → o ≠ 303 → o ≠ 304 → o ≠ 305 → o ≠ 307 → s o = s0 o) ∧ (∀ c, 0 ≤ c → c < 1600 → s 301 c = LO W n c ∧ s 302 c = SP W n c ∧ s 303 c = SN W n c ∧ s 304 c = SM W n c ∧ s 305 c = LN W n c) ∧ ∀ l, 0 ≤ l → l < n → ∀ t, 0 ≤ t → t < cT W l → s 307 (20 * l + t) = sc W l t
theorem C_drawLine (hg : GOk g z) (ha : isLn TD a) (ha2 : a + 2 < 300) (hv : LV s0 a W l) (hl : 0 ≤ l ∧ l < 8) (hG : ∀ i, 0 ≤ i → i ≤ l → LG W i) (h : Bd W s0 s l) : ∃ s', qB_drawLine (z + 300) (z + a) (J l) (J (len W l)) (hi z TD g w s) = rV (hi z TD g w s') ∧ Bd W s0 s' (l + 1) := by
  have hgl := hG l hl.1 (Int.le_refl l)
  have b1 := hgl.1.1
  have b2 := hgl.1.2.2.2 0 (by omega) (by omega)
  have b5 := len_bd hgl.1
  have b8 := hgl.1.2.1
  have p0 := Ps_0 hgl
  have a1 := Ps_in hgl (k := 0) (by omega) (by omega)
  have hv0 : LV s a W l := LV_fr h.1 ha2 hv
  have f0 := hv0.2.2.2 0 (by omega) (by omega)
  have f1 := (h.2.1 _ a1.1 a1.2).1
  have n1 := LO_nn (W := W) (l := l) (c := Ps W l 0)
  have f4 := (h.2.1 _ a1.1 a1.2).2.2.2.1
  have n4 := SM_nn (W := W) (l := l) (c := Ps W l 0)
  have f5 := (h.2.1 _ a1.1 a1.2).2.2.2.2
  have n6 := LN_bd (W := W) (n := l) (c := Ps W l 0) hl.1 (fun i i1 i2 => (hG i i1 (by omega)).1)
  unfold qB_drawLine
  simp (disch := first | assumption | omega) only [↓gR_D0, ↓gR_D1, ↓gR_D2, ↓gR_D3, ↓gR_D4, ↓gR_D5, ↓gR_D6, ↓gR_D7, ↓gR_D8, ↓gR_D9, ↓gR_D10, ↓gI_D11, ↓pV_D11, ↓isO_D, ↓gI_T0, ↓pV_T0, ↓gR_T1, ↓isO_T, ↓rd_T2, ↓wr_T2, ↓gI_U0, ↓pV_U0, ↓gR_U1, ↓isO_U, ↓rd_U2, ↓wr_U2, ↓gI_Ps0, ↓pV_Ps0, ↓gI_Ps1, ↓pV_Ps1, ↓gI_Ps2, ↓pV_Ps2, ↓gI_Ps3, ↓pV_Ps3, ↓gI_Ps4, ↓pV_Ps4, ↓isO_Ps, ↓gI_N0, ↓pV_N0, ↓gI_N1, ↓pV_N1, ↓gI_N2, ↓pV_N2, ↓gI_N3, ↓pV_N3, ↓gR_N4, ↓gR_N5, ↓isO_N, ↓rd_NL, ↓gI_NB0, ↓pV_NB0, ↓gR_NB1, ↓gR_NB2, ↓isO_NB, ↓rd_NC, ↓wr_NC, ↓ln_NC, ↓rd_NP, ↓wr_NP, ↓ln_NP, ↓gI_V0, ↓pV_V0, ↓gI_V1, ↓pV_V1, ↓gI_V2, ↓pV_V2, ↓gI_V3, ↓pV_V3, ↓gR_V4, ↓gR_V5, ↓isO_V, ↓rd_VL, ↓gI_VB0, ↓pV_VB0, ↓gR_VB1, ↓gR_VB2, ↓isO_VB, ↓rd_VC, ↓wr_VC, ↓ln_VC, ↓rd_VP, ↓wr_VP, ↓ln_VP, ↓rd_SL, ↓rd_KP, ↓wr_KP, ↓gI_H0, ↓pV_H0, ↓gI_H1, ↓pV_H1, ↓gR_H2, ↓isO_H, ↓rd_HP, ↓gI_B0, ↓pV_B0, ↓gI_B1, ↓pV_B1, ↓gR_B2, ↓gR_B3, ↓gR_B4, ↓gR_B5, ↓gR_B6, ↓gR_B7, ↓gR_B8, ↓isO_B, ↓rd_B301, ↓wr_B301, ↓ln_B301, ↓rd_B302, ↓wr_B302, ↓ln_B302, ↓rd_B303, ↓wr_B303, ↓ln_B303, ↓rd_B304, ↓wr_B304, ↓ln_B304, ↓rd_B305, ↓wr_B305, ↓ln_B305, ↓rd_B306, ↓wr_B306, ↓ln_B306, ↓rd_B307, ↓wr_B307, ↓ln_B307, ↓gR_Tv, ↓isO_Tv, ↓rd_Tv9, ↓wr_Tv9, ↓ln_Tv9, pV_D11, pV_T0, rd_T2, wr_T2, pV_U0, rd_U2, wr_U2, pV_Ps0, pV_Ps1, pV_Ps2, pV_Ps3, pV_Ps4, pV_N0, pV_N1, pV_N2, pV_N3, rd_NL, pV_NB0, rd_NC, wr_NC, rd_NP, wr_NP, pV_V0, pV_V1, pV_V2, pV_V3, rd_VL, pV_VB0, rd_VC, wr_VC, rd_VP, wr_VP, rd_SL, rd_KP, wr_KP, pV_H0, pV_H1, rd_HP, pV_B0, pV_B1, rd_B301, wr_B301, rd_B302, wr_B302, rd_B303, wr_B303, rd_B304, wr_B304, rd_B305, wr_B305, rd_B306, wr_B306, rd_B307, wr_B307, rd_Tv9, wr_Tv9, ↓isO_L, ↓gI_L0, ↓pV_L0, ↓gI_L1, ↓pV_L1, ↓gI_L2, ↓pV_L2, ↓gI_L3, ↓pV_L3, ↓gR_L4, ↓rd_L4, ↓wr_L4, ↓gR_L5, ↓rd_L5, ↓wr_L5, pV_L0, pV_L1, pV_L2, pV_L3, rd_L4, wr_L4, rd_L5, wr_L5, J_l, J_neg, J_add, J_sub, J_mul, J_lt, J_le, J_eq, J_div2, J_rem2, J_shl1, J_orp, J_or, J_and, J_shr, J_ushr, J_max, J_min, J_abs, J_b0, ↓b0_ite, ↓b0_ite2, b0_ite, bI_r, bV_r, b01_ite, rZ_b, K_l, J_long, M_in, f0.1, f0.2, C_cellAt, ← p0]
  have hD0 : DrI W s (rs s 301 (ru (s 301) (Ps W l 0) (ior (s 301 (Ps W l 0)) (pw l)))) l 0 0 := by
    refine ⟨fun o o1 o2 o3 o4 o5 o6 => ?_, fun c c1 c2 => ⟨?_, ?_, ?_, ?_, ?_⟩, fun i i1 i2 => by omega, fun i hi => ?_⟩
    · rw [rs_ne o1]
    · simp (disch := omega) only [rs_same, rs_ne, rs_rs, ru_same, ru_ne, ne_eq]
      rw [LOp_0 hl]
      by_cases e : c = Ps W l 0
      · rw [e, ru_same, if_pos rfl, (h.2.1 _ a1.1 a1.2).1]
      · rw [ru_ne e, if_neg e, (h.2.1 c c1 c2).1]
    · simp (disch := omega) only [rs_same, rs_ne, rs_rs, ru_same, ru_ne, ne_eq]
      rw [SPp_0, (h.2.1 c c1 c2).2.1]
    · simp (disch := omega) only [rs_same, rs_ne, rs_rs, ru_same, ru_ne, ne_eq]
      rw [cs_0, Int.add_zero, (h.2.1 c c1 c2).2.2.1]
    · simp (disch := omega) only [rs_same, rs_ne, rs_rs, ru_same, ru_ne, ne_eq]
      rw [SMp_0, (h.2.1 c c1 c2).2.2.2.1]
    · simp (disch := omega) only [rs_same, rs_ne, rs_rs, ru_same, ru_ne, ne_eq]
      rw [ml_0, (h.2.1 c c1 c2).2.2.2.2]
      have := LN_bd (W := W) (n := l) (c := c) hl.1 (fun i i1 i2 => (hG i i1 (by omega)).1)
      omega
    · simp (disch := omega) only [rs_same, rs_ne, rs_rs, ru_same, ru_ne, ne_eq]
  generalize hS1 : rs s 301 (ru (s 301) (Ps W l 0) (ior (s 301 (Ps W l 0)) (pw l))) = s1 at hD0
  have hv1 : LV s1 a W l := LV_fr hD0.1 ha2 hv0
  have e304 : s1 304 = s 304 := by rw [← hS1, rs_ne (by decide)]
  have e305 : s1 305 = s 305 := by rw [← hS1, rs_ne (by decide)]
  have x3 := C_drawStation (w := w) (g := g) (z := z) (s := s1) (c := Ps W l 0) ha ha2 hv1 hgl.1 hl (t := 0) ⟨by omega, by omega⟩ a1 (by rw [e304]; omega) (by rw [e305]; omega)
  have hu2 := DrI_stat hl hgl (by omega) (by omega) hD0
  have esc : sc W l 0 = Ps W l 0 := by unfold sc; rw [st_0]
  rw [esc] at hu2
  simp (disch := first | assumption | omega) only [↓gR_D0, ↓gR_D1, ↓gR_D2, ↓gR_D3, ↓gR_D4, ↓gR_D5, ↓gR_D6, ↓gR_D7, ↓gR_D8, ↓gR_D9, ↓gR_D10, ↓gI_D11, ↓pV_D11, ↓isO_D, ↓gI_T0, ↓pV_T0, ↓gR_T1, ↓isO_T, ↓rd_T2, ↓wr_T2, ↓gI_U0, ↓pV_U0, ↓gR_U1, ↓isO_U, ↓rd_U2, ↓wr_U2, ↓gI_Ps0, ↓pV_Ps0, ↓gI_Ps1, ↓pV_Ps1, ↓gI_Ps2, ↓pV_Ps2, ↓gI_Ps3, ↓pV_Ps3, ↓gI_Ps4, ↓pV_Ps4, ↓isO_Ps, ↓gI_N0, ↓pV_N0, ↓gI_N1, ↓pV_N1, ↓gI_N2, ↓pV_N2, ↓gI_N3, ↓pV_N3, ↓gR_N4, ↓gR_N5, ↓isO_N, ↓rd_NL, ↓gI_NB0, ↓pV_NB0, ↓gR_NB1, ↓gR_NB2, ↓isO_NB, ↓rd_NC, ↓wr_NC, ↓ln_NC, ↓rd_NP, ↓wr_NP, ↓ln_NP, ↓gI_V0, ↓pV_V0, ↓gI_V1, ↓pV_V1, ↓gI_V2, ↓pV_V2, ↓gI_V3, ↓pV_V3, ↓gR_V4, ↓gR_V5, ↓isO_V, ↓rd_VL, ↓gI_VB0, ↓pV_VB0, ↓gR_VB1, ↓gR_VB2, ↓isO_VB, ↓rd_VC, ↓wr_VC, ↓ln_VC, ↓rd_VP, ↓wr_VP, ↓ln_VP, ↓rd_SL, ↓rd_KP, ↓wr_KP, ↓gI_H0, ↓pV_H0, ↓gI_H1, ↓pV_H1, ↓gR_H2, ↓isO_H, ↓rd_HP, ↓gI_B0, ↓pV_B0, ↓gI_B1, ↓pV_B1, ↓gR_B2, ↓gR_B3, ↓gR_B4, ↓gR_B5, ↓gR_B6, ↓gR_B7, ↓gR_B8, ↓isO_B, ↓rd_B301, ↓wr_B301, ↓ln_B301, ↓rd_B302, ↓wr_B302, ↓ln_B302, ↓rd_B303, ↓wr_B303, ↓ln_B303, ↓rd_B304, ↓wr_B304, ↓ln_B304, ↓rd_B305, ↓wr_B305, ↓ln_B305, ↓rd_B306, ↓wr_B306, ↓ln_B306, ↓rd_B307, ↓wr_B307, ↓ln_B307, ↓gR_Tv, ↓isO_Tv, ↓rd_Tv9, ↓wr_Tv9, ↓ln_Tv9, pV_D11, pV_T0, rd_T2, wr_T2, pV_U0, rd_U2, wr_U2, pV_Ps0, pV_Ps1, pV_Ps2, pV_Ps3, pV_Ps4, pV_N0, pV_N1, pV_N2, pV_N3, rd_NL, pV_NB0, rd_NC, wr_NC, rd_NP, wr_NP, pV_V0, pV_V1, pV_V2, pV_V3, rd_VL, pV_VB0, rd_VC, wr_VC, rd_VP, wr_VP, rd_SL, rd_KP, wr_KP, pV_H0, pV_H1, rd_HP, pV_B0, pV_B1, rd_B301, wr_B301, rd_B302, wr_B302, rd_B303, wr_B303, rd_B304, wr_B304, rd_B305, wr_B305, rd_B306, wr_B306, rd_B307, wr_B307, rd_Tv9, wr_Tv9, J_l, J_neg, J_add, J_sub, J_mul, J_lt, J_le, J_eq, J_div2, J_rem2, J_shl1, J_orp, J_or, J_and, J_shr, J_ushr, J_max, J_min, J_abs, J_b0, ↓b0_ite, ↓b0_ite2, b0_ite, bI_r, bV_r, b01_ite, rZ_b, K_l, J_long, M_in, x3]
  generalize dtM s1 l 0 (Ps W l 0) (cZ W l + 0 % 3) = s2 at hu2
  have hnx : nx W l (pr W l 0) (0 + 1) := by
    refine ⟨by omega, by omega, ?_, fun _ => ?_⟩
    · rw [show (0 : Int) + 1 - 1 = 0 by omega, st_0, pr_0]; omega
    · have := st_s hgl (k := 0) (by omega)
      rw [st_0] at this
      rw [pr_0]
      omega
  have hloop : ∃ t' s', qB_drawLine_48 LF (z + 300) (z + a) (J l) (J (len W l)) (J (Ps W l (pr W l 0))) (J (pr W l 0)) (J (0 + 1)) (J 0) (hi z TD g w s2) = rV (hi z TD g w s') ∧ DrI W s s' l (len W l) t' ∧ nx W l (len W l) t' := by
    refine loopI (S := Int × Int × CT) (fun k q => qB_drawLine_48 k (z + 300) (z + a) (J l) (J (len W l)) (J (Ps W l (pr W l q.1))) (J (pr W l q.1)) (J q.2.1) (J q.1) (hi z TD g w q.2.2)) (fun X => ∃ t' s', X = rV (hi z TD g w s') ∧ DrI W s s' l (len W l) t' ∧ nx W l (len W l) t') (fun q => (0 ≤ q.1 ∧ q.1 ≤ cN W l - 1) ∧ DrI W s q.2.2 l (pr W l q.1) q.2.1 ∧ nx W l (pr W l q.1) q.2.1) (fun q => cN W l - 1 - q.1) (by intro q hq; omega) (fun k q hq ih => ?_) (0, 0 + 1, s2) ⟨⟨by show (0 : Int) ≤ 0; omega, by show 0 ≤ cN W l - 1; omega⟩, hu2, hnx⟩ (by show cN W l - 1 - 0 < 20000; omega)
    obtain ⟨r, t, u⟩ := q
    obtain ⟨⟨hr, hr2⟩, hu, hn⟩ := hq
    change 0 ≤ r at hr
    change r ≤ cN W l - 1 at hr2
    change DrI W s u l (pr W l r) t at hu
    change nx W l (pr W l r) t at hn
    have hvu : LV u a W l := LV_fr hu.1 ha2 hv0
    have g1 := hvu.1
    show ∃ t' s', qB_drawLine_48_b (qB_drawLine_48 k) (z + 300) (z + a) (J l) (J (len W l)) (J (Ps W l (pr W l r))) (J (pr W l r)) (J t) (J r) (hi z TD g w u) = rV (hi z TD g w s') ∧ DrI W s s' l (len W l) t' ∧ nx W l (len W l) t'
    unfold qB_drawLine_48_b
    simp (disch := first | assumption | omega) only [↓gR_D0, ↓gR_D1, ↓gR_D2, ↓gR_D3, ↓gR_D4, ↓gR_D5, ↓gR_D6, ↓gR_D7, ↓gR_D8, ↓gR_D9, ↓gR_D10, ↓gI_D11, ↓pV_D11, ↓isO_D, ↓gI_T0, ↓pV_T0, ↓gR_T1, ↓isO_T, ↓rd_T2, ↓wr_T2, ↓gI_U0, ↓pV_U0, ↓gR_U1, ↓isO_U, ↓rd_U2, ↓wr_U2, ↓gI_Ps0, ↓pV_Ps0, ↓gI_Ps1, ↓pV_Ps1, ↓gI_Ps2, ↓pV_Ps2, ↓gI_Ps3, ↓pV_Ps3, ↓gI_Ps4, ↓pV_Ps4, ↓isO_Ps, ↓gI_N0, ↓pV_N0, ↓gI_N1, ↓pV_N1, ↓gI_N2, ↓pV_N2, ↓gI_N3, ↓pV_N3, ↓gR_N4, ↓gR_N5, ↓isO_N, ↓rd_NL, ↓gI_NB0, ↓pV_NB0, ↓gR_NB1, ↓gR_NB2, ↓isO_NB, ↓rd_NC, ↓wr_NC, ↓ln_NC, ↓rd_NP, ↓wr_NP, ↓ln_NP, ↓gI_V0, ↓pV_V0, ↓gI_V1, ↓pV_V1, ↓gI_V2, ↓pV_V2, ↓gI_V3, ↓pV_V3, ↓gR_V4, ↓gR_V5, ↓isO_V, ↓rd_VL, ↓gI_VB0, ↓pV_VB0, ↓gR_VB1, ↓gR_VB2, ↓isO_VB, ↓rd_VC, ↓wr_VC, ↓ln_VC, ↓rd_VP, ↓wr_VP, ↓ln_VP, ↓rd_SL, ↓rd_KP, ↓wr_KP, ↓gI_H0, ↓pV_H0, ↓gI_H1, ↓pV_H1, ↓gR_H2, ↓isO_H, ↓rd_HP, ↓gI_B0, ↓pV_B0, ↓gI_B1, ↓pV_B1, ↓gR_B2, ↓gR_B3, ↓gR_B4, ↓gR_B5, ↓gR_B6, ↓gR_B7, ↓gR_B8, ↓isO_B, ↓rd_B301, ↓wr_B301, ↓ln_B301, ↓rd_B302, ↓wr_B302, ↓ln_B302, ↓rd_B303, ↓wr_B303, ↓ln_B303, ↓rd_B304, ↓wr_B304, ↓ln_B304, ↓rd_B305, ↓wr_B305, ↓ln_B305, ↓rd_B306, ↓wr_B306, ↓ln_B306, ↓rd_B307, ↓wr_B307, ↓ln_B307, ↓gR_Tv, ↓isO_Tv, ↓rd_Tv9, ↓wr_Tv9, ↓ln_Tv9, pV_D11, pV_T0, rd_T2, wr_T2, pV_U0, rd_U2, wr_U2, pV_Ps0, pV_Ps1, pV_Ps2, pV_Ps3, pV_Ps4, pV_N0, pV_N1, pV_N2, pV_N3, rd_NL, pV_NB0, rd_NC, wr_NC, rd_NP, wr_NP, pV_V0, pV_V1, pV_V2, pV_V3, rd_VL, pV_VB0, rd_VC, wr_VC, rd_VP, wr_VP, rd_SL, rd_KP, wr_KP, pV_H0, pV_H1, rd_HP, pV_B0, pV_B1, rd_B301, wr_B301, rd_B302, wr_B302, rd_B303, wr_B303, rd_B304, wr_B304, rd_B305, wr_B305, rd_B306, wr_B306, rd_B307, wr_B307, rd_Tv9, wr_Tv9, ↓isO_L, ↓gI_L0, ↓pV_L0, ↓gI_L1, ↓pV_L1, ↓gI_L2, ↓pV_L2, ↓gI_L3, ↓pV_L3, ↓gR_L4, ↓rd_L4, ↓wr_L4, ↓gR_L5, ↓rd_L5, ↓wr_L5, pV_L0, pV_L1, pV_L2, pV_L3, rd_L4, wr_L4, rd_L5, wr_L5, J_l, J_neg, J_add, J_sub, J_mul, J_lt, J_le, J_eq, J_div2, J_rem2, J_shl1, J_orp, J_or, J_and, J_shr, J_ushr, J_max, J_min, J_abs, J_b0, ↓b0_ite, ↓b0_ite2, b0_ite, bI_r, bV_r, b01_ite, rZ_b, K_l, J_long, M_in, g1]
    by_cases hc : r < cN W l - 1
    · rw [if_pos hc]
      have y1 := L_wayOfRun (w := w) hg ha hvu hgl.1 (r := r) ⟨hr, hc⟩
      have y2 := L_stepsOfRun (z := z) (g := g) (w := w) ha hvu hgl.1 (r := r) ⟨hr, hc⟩
      simp (disch := first | assumption | omega) only [↓gR_D0, ↓gR_D1, ↓gR_D2, ↓gR_D3, ↓gR_D4, ↓gR_D5, ↓gR_D6, ↓gR_D7, ↓gR_D8, ↓gR_D9, ↓gR_D10, ↓gI_D11, ↓pV_D11, ↓isO_D, ↓gI_T0, ↓pV_T0, ↓gR_T1, ↓isO_T, ↓rd_T2, ↓wr_T2, ↓gI_U0, ↓pV_U0, ↓gR_U1, ↓isO_U, ↓rd_U2, ↓wr_U2, ↓gI_Ps0, ↓pV_Ps0, ↓gI_Ps1, ↓pV_Ps1, ↓gI_Ps2, ↓pV_Ps2, ↓gI_Ps3, ↓pV_Ps3, ↓gI_Ps4, ↓pV_Ps4, ↓isO_Ps, ↓gI_N0, ↓pV_N0, ↓gI_N1, ↓pV_N1, ↓gI_N2, ↓pV_N2, ↓gI_N3, ↓pV_N3, ↓gR_N4, ↓gR_N5, ↓isO_N, ↓rd_NL, ↓gI_NB0, ↓pV_NB0, ↓gR_NB1, ↓gR_NB2, ↓isO_NB, ↓rd_NC, ↓wr_NC, ↓ln_NC, ↓rd_NP, ↓wr_NP, ↓ln_NP, ↓gI_V0, ↓pV_V0, ↓gI_V1, ↓pV_V1, ↓gI_V2, ↓pV_V2, ↓gI_V3, ↓pV_V3, ↓gR_V4, ↓gR_V5, ↓isO_V, ↓rd_VL, ↓gI_VB0, ↓pV_VB0, ↓gR_VB1, ↓gR_VB2, ↓isO_VB, ↓rd_VC, ↓wr_VC, ↓ln_VC, ↓rd_VP, ↓wr_VP, ↓ln_VP, ↓rd_SL, ↓rd_KP, ↓wr_KP, ↓gI_H0, ↓pV_H0, ↓gI_H1, ↓pV_H1, ↓gR_H2, ↓isO_H, ↓rd_HP, ↓gI_B0, ↓pV_B0, ↓gI_B1, ↓pV_B1, ↓gR_B2, ↓gR_B3, ↓gR_B4, ↓gR_B5, ↓gR_B6, ↓gR_B7, ↓gR_B8, ↓isO_B, ↓rd_B301, ↓wr_B301, ↓ln_B301, ↓rd_B302, ↓wr_B302, ↓ln_B302, ↓rd_B303, ↓wr_B303, ↓ln_B303, ↓rd_B304, ↓wr_B304, ↓ln_B304, ↓rd_B305, ↓wr_B305, ↓ln_B305, ↓rd_B306, ↓wr_B306, ↓ln_B306, ↓rd_B307, ↓wr_B307, ↓ln_B307, ↓gR_Tv, ↓isO_Tv, ↓rd_Tv9, ↓wr_Tv9, ↓ln_Tv9, pV_D11, pV_T0, rd_T2, wr_T2, pV_U0, rd_U2, wr_U2, pV_Ps0, pV_Ps1, pV_Ps2, pV_Ps3, pV_Ps4, pV_N0, pV_N1, pV_N2, pV_N3, rd_NL, pV_NB0, rd_NC, wr_NC, rd_NP, wr_NP, pV_V0, pV_V1, pV_V2, pV_V3, rd_VL, pV_VB0, rd_VC, wr_VC, rd_VP, wr_VP, rd_SL, rd_KP, wr_KP, pV_H0, pV_H1, rd_HP, pV_B0, pV_B1, rd_B301, wr_B301, rd_B302, wr_B302, rd_B303, wr_B303, rd_B304, wr_B304, rd_B305, wr_B305, rd_B306, wr_B306, rd_B307, wr_B307, rd_Tv9, wr_Tv9, ↓isO_L, ↓gI_L0, ↓pV_L0, ↓gI_L1, ↓pV_L1, ↓gI_L2, ↓pV_L2, ↓gI_L3, ↓pV_L3, ↓gR_L4, ↓rd_L4, ↓wr_L4, ↓gR_L5, ↓rd_L5, ↓wr_L5, pV_L0, pV_L1, pV_L2, pV_L3, rd_L4, wr_L4, rd_L5, wr_L5, J_l, J_neg, J_add, J_sub, J_mul, J_lt, J_le, J_eq, J_div2, J_rem2, J_shl1, J_orp, J_or, J_and, J_shr, J_ushr, J_max, J_min, J_abs, J_b0, ↓b0_ite, ↓b0_ite2, b0_ite, bI_r, bV_r, b01_ite, rZ_b, K_l, J_long, M_in, y1, y2]
      obtain ⟨t', s', c1, c2, c3⟩ := C_draw75 (w := w) (k48 := qB_drawLine_48 k) hg ha ha2 hv0 hl hG hr hc hn hu
      rw [Int.add_zero, Int.sub_zero] at c1
      rw [c1]
      exact ih (r + 1, t', s') ⟨⟨by show 0 ≤ r + 1; omega, by show r + 1 ≤ cN W l - 1; omega⟩, c2, c3⟩ (by show cN W l - 1 - (r + 1) < cN W l - 1 - r; omega)
    · rw [if_neg hc]
      have e : pr W l r = len W l := by unfold len; rw [show r = cN W l - 1 by omega]
      rw [e] at hu hn
      exact ⟨t, u, rfl, hu, hn⟩
  obtain ⟨t', s', c1, c2, c3⟩ := hloop
  rw [pr_0] at c1
  refine ⟨s', c1, ?_⟩
  have et : t' = cT W l := by
    have h1 := c3.2.1
    have h2 := c3.2.2.2
    by_cases h3 : t' < cT W l
    · have := st_in hgl (k := t') (by have := c3.1; omega) h3
      have := h2 h3
      omega
    · omega
  subst et
  refine ⟨fun o o1 o2 o3 o4 o5 o6 => ?_, fun c c1' c2' => ?_, fun i i1 i2 t t1 t2 => ?_⟩
  · rw [c2.1 o o1 o2 o3 o4 o5 o6, h.1 o o1 o2 o3 o4 o5 o6]
  · have x := c2.2.1 c c1' c2'
    rw [x.1, x.2.1, x.2.2.1, x.2.2.2.1, x.2.2.2.2, LOp_end, SPp_end, SMp_end, SN_s hl.1, LN_s hl.1]
    exact ⟨rfl, rfl, rfl, rfl, rfl⟩
  · by_cases e : i = l
    · subst e
      exact c2.2.2.1 t t1 t2
    · have b9 := (hG i i1 (by omega)).1.2.1
      rw [c2.2.2.2 _ (by omega)]
      exact h.2.2 i i1 (by omega) t t1 t2
/-- what the board's rows say of the present plan, but for labels -/
def BdL (W : Int → Int) (s : CT) (n : Int) : Prop := (∀ c, 0 ≤ c → c < 1600 → s 301 c = LO W n c ∧ s 302 c = SP W n c ∧ s 303 c = SN W n c ∧ s 304 c = SM W n c ∧ s 305 c = LN W n c) ∧ ∀ l, 0 ≤ l → l < n → ∀ t, 0 ≤ t → t < cT W l → s 307 (20 * l + t) = sc W l t
/-- the present plan's lines show a world's -/
def NowV (s : CT) (W : Int → Int) (n : Int) : Prop := s 6 3 = n ∧ ∀ l, 0 ≤ l → l < n → LV s (11 + 3 * l.toNat) W l
theorem isLn_now (h : 0 ≤ l ∧ l < 8) : isLn TD (11 + 3 * l.toNat) := isPl_6.2.2.2 l.toNat (by omega)
theorem C_begin {x y : Int} : qB_begin (z + 300) (J x) (J y) (hi z TD g w s) = rV (hi z TD g w (rs (rs (rs (rs (rs (rs (rs s 300 (ru (ru (s 300) 0 x) 1 y)) 301 (cns (s 301) 1600 0)) 302 (cns (s 302) 1600 0)) 303 (cns (s 303) 1600 0)) 304 (cns (s 304) 1600 0)) 305 (cns (s 305) 1600 0)) 306 (cns (s 306) 1600 0))) := by
  have fl : ∀ (o : Nat) (u : CT), TD o = some (.inl (0, 1600)) → qJA_fill (z + o) (J 0) (hi z TD g w u) = rV (hi z TD g w (rs u o (cns (u o) 1600 0))) := fun o u ho => fill_hi (n := 1600) ho (by decide)
  unfold qB_begin
  simp (disch := omega) only [↓gR_D0, ↓gR_D1, ↓gR_D2, ↓gR_D3, ↓gR_D4, ↓gR_D5, ↓gR_D6, ↓gR_D7, ↓gR_D8, ↓gR_D9, ↓gR_D10, ↓gI_D11, ↓pV_D11, ↓isO_D, ↓gI_T0, ↓pV_T0, ↓gR_T1, ↓isO_T, ↓rd_T2, ↓wr_T2, ↓gI_U0, ↓pV_U0, ↓gR_U1, ↓isO_U, ↓rd_U2, ↓wr_U2, ↓gI_Ps0, ↓pV_Ps0, ↓gI_Ps1, ↓pV_Ps1, ↓gI_Ps2, ↓pV_Ps2, ↓gI_Ps3, ↓pV_Ps3, ↓gI_Ps4, ↓pV_Ps4, ↓isO_Ps, ↓gI_N0, ↓pV_N0, ↓gI_N1, ↓pV_N1, ↓gI_N2, ↓pV_N2, ↓gI_N3, ↓pV_N3, ↓gR_N4, ↓gR_N5, ↓isO_N, ↓rd_NL, ↓gI_NB0, ↓pV_NB0, ↓gR_NB1, ↓gR_NB2, ↓isO_NB, ↓rd_NC, ↓wr_NC, ↓ln_NC, ↓rd_NP, ↓wr_NP, ↓ln_NP, ↓gI_V0, ↓pV_V0, ↓gI_V1, ↓pV_V1, ↓gI_V2, ↓pV_V2, ↓gI_V3, ↓pV_V3, ↓gR_V4, ↓gR_V5, ↓isO_V, ↓rd_VL, ↓gI_VB0, ↓pV_VB0, ↓gR_VB1, ↓gR_VB2, ↓isO_VB, ↓rd_VC, ↓wr_VC, ↓ln_VC, ↓rd_VP, ↓wr_VP, ↓ln_VP, ↓rd_SL, ↓rd_KP, ↓wr_KP, ↓gI_H0, ↓pV_H0, ↓gI_H1, ↓pV_H1, ↓gR_H2, ↓isO_H, ↓rd_HP, ↓gI_B0, ↓pV_B0, ↓gI_B1, ↓pV_B1, ↓gR_B2, ↓gR_B3, ↓gR_B4, ↓gR_B5, ↓gR_B6, ↓gR_B7, ↓gR_B8, ↓isO_B, ↓rd_B301, ↓wr_B301, ↓ln_B301, ↓rd_B302, ↓wr_B302, ↓ln_B302, ↓rd_B303, ↓wr_B303, ↓ln_B303, ↓rd_B304, ↓wr_B304, ↓ln_B304, ↓rd_B305, ↓wr_B305, ↓ln_B305, ↓rd_B306, ↓wr_B306, ↓ln_B306, ↓rd_B307, ↓wr_B307, ↓ln_B307, ↓gR_Tv, ↓isO_Tv, ↓rd_Tv9, ↓wr_Tv9, ↓ln_Tv9, pV_D11, pV_T0, rd_T2, wr_T2, pV_U0, rd_U2, wr_U2, pV_Ps0, pV_Ps1, pV_Ps2, pV_Ps3, pV_Ps4, pV_N0, pV_N1, pV_N2, pV_N3, rd_NL, pV_NB0, rd_NC, wr_NC, rd_NP, wr_NP, pV_V0, pV_V1, pV_V2, pV_V3, rd_VL, pV_VB0, rd_VC, wr_VC, rd_VP, wr_VP, rd_SL, rd_KP, wr_KP, pV_H0, pV_H1, rd_HP, pV_B0, pV_B1, rd_B301, wr_B301, rd_B302, wr_B302, rd_B303, wr_B303, rd_B304, wr_B304, rd_B305, wr_B305, rd_B306, wr_B306, rd_B307, wr_B307, rd_Tv9, wr_Tv9, J_l, J_neg, J_add, J_sub, J_mul, J_lt, J_le, J_eq, J_div2, J_rem2, J_shl1, J_orp, J_or, J_and, J_shr, J_ushr, J_max, J_min, J_abs, J_b0, ↓b0_ite, ↓b0_ite2, b0_ite, bI_r, bV_r, b01_ite, rZ_b, K_l, J_long, M_in, rs_same, rs_ne, rs_rs, ru_same, ru_ne, ne_eq, fl 301 _ rfl, fl 302 _ rfl, fl 303 _ rfl, fl 304 _ rfl, fl 305 _ rfl, fl 306 _ rfl]
theorem cns_in (h : 0 ≤ i ∧ i < n) : cns q n.toNat v i = v := if_pos (by omega)
theorem C_drawLines (hg : GOk g z) (hn : 0 ≤ n ∧ n ≤ 8) (hG : ∀ i, 0 ≤ i → i < n → LG W i) (hv : NowV s W n) : ∃ s', qB_drawLines (z + 300) (z + 6) (hi z TD g w s) = rV (hi z TD g w s') ∧ (∀ o, o < 300 ∨ 307 < o → s' o = s o) ∧ (s' 300 0 = s 6 0 ∧ s' 300 1 = s 6 1) ∧ BdL W s' n ∧ ∀ c, 0 ≤ c → c < 1600 → s' 306 c = 0 := by
  unfold qB_drawLines
  simp (disch := first | assumption | omega) only [↓gR_D0, ↓gR_D1, ↓gR_D2, ↓gR_D3, ↓gR_D4, ↓gR_D5, ↓gR_D6, ↓gR_D7, ↓gR_D8, ↓gR_D9, ↓gR_D10, ↓gI_D11, ↓pV_D11, ↓isO_D, ↓gI_T0, ↓pV_T0, ↓gR_T1, ↓isO_T, ↓rd_T2, ↓wr_T2, ↓gI_U0, ↓pV_U0, ↓gR_U1, ↓isO_U, ↓rd_U2, ↓wr_U2, ↓gI_Ps0, ↓pV_Ps0, ↓gI_Ps1, ↓pV_Ps1, ↓gI_Ps2, ↓pV_Ps2, ↓gI_Ps3, ↓pV_Ps3, ↓gI_Ps4, ↓pV_Ps4, ↓isO_Ps, ↓gI_N0, ↓pV_N0, ↓gI_N1, ↓pV_N1, ↓gI_N2, ↓pV_N2, ↓gI_N3, ↓pV_N3, ↓gR_N4, ↓gR_N5, ↓isO_N, ↓rd_NL, ↓gI_NB0, ↓pV_NB0, ↓gR_NB1, ↓gR_NB2, ↓isO_NB, ↓rd_NC, ↓wr_NC, ↓ln_NC, ↓rd_NP, ↓wr_NP, ↓ln_NP, ↓gI_V0, ↓pV_V0, ↓gI_V1, ↓pV_V1, ↓gI_V2, ↓pV_V2, ↓gI_V3, ↓pV_V3, ↓gR_V4, ↓gR_V5, ↓isO_V, ↓rd_VL, ↓gI_VB0, ↓pV_VB0, ↓gR_VB1, ↓gR_VB2, ↓isO_VB, ↓rd_VC, ↓wr_VC, ↓ln_VC, ↓rd_VP, ↓wr_VP, ↓ln_VP, ↓rd_SL, ↓rd_KP, ↓wr_KP, ↓gI_H0, ↓pV_H0, ↓gI_H1, ↓pV_H1, ↓gR_H2, ↓isO_H, ↓rd_HP, ↓gI_B0, ↓pV_B0, ↓gI_B1, ↓pV_B1, ↓gR_B2, ↓gR_B3, ↓gR_B4, ↓gR_B5, ↓gR_B6, ↓gR_B7, ↓gR_B8, ↓isO_B, ↓rd_B301, ↓wr_B301, ↓ln_B301, ↓rd_B302, ↓wr_B302, ↓ln_B302, ↓rd_B303, ↓wr_B303, ↓ln_B303, ↓rd_B304, ↓wr_B304, ↓ln_B304, ↓rd_B305, ↓wr_B305, ↓ln_B305, ↓rd_B306, ↓wr_B306, ↓ln_B306, ↓rd_B307, ↓wr_B307, ↓ln_B307, ↓gR_Tv, ↓isO_Tv, ↓rd_Tv9, ↓wr_Tv9, ↓ln_Tv9, pV_D11, pV_T0, rd_T2, wr_T2, pV_U0, rd_U2, wr_U2, pV_Ps0, pV_Ps1, pV_Ps2, pV_Ps3, pV_Ps4, pV_N0, pV_N1, pV_N2, pV_N3, rd_NL, pV_NB0, rd_NC, wr_NC, rd_NP, wr_NP, pV_V0, pV_V1, pV_V2, pV_V3, rd_VL, pV_VB0, rd_VC, wr_VC, rd_VP, wr_VP, rd_SL, rd_KP, wr_KP, pV_H0, pV_H1, rd_HP, pV_B0, pV_B1, rd_B301, wr_B301, rd_B302, wr_B302, rd_B303, wr_B303, rd_B304, wr_B304, rd_B305, wr_B305, rd_B306, wr_B306, rd_B307, wr_B307, rd_Tv9, wr_Tv9, J_l, J_neg, J_add, J_sub, J_mul, J_lt, J_le, J_eq, J_div2, J_rem2, J_shl1, J_orp, J_or, J_and, J_shr, J_ushr, J_max, J_min, J_abs, J_b0, ↓b0_ite, ↓b0_ite2, b0_ite, bI_r, bV_r, b01_ite, rZ_b, K_l, J_long, M_in, C_begin]
  generalize hS1 : rs (rs (rs (rs (rs (rs (rs s 300 (ru (ru (s 300) 0 (s 6 0)) 1 (s 6 1))) 301 (cns (s 301) 1600 0)) 302 (cns (s 302) 1600 0)) 303 (cns (s 303) 1600 0)) 304 (cns (s 304) 1600 0)) 305 (cns (s 305) 1600 0)) 306 (cns (s 306) 1600 0) = s1
  have q0 : ∀ o, o < 300 ∨ 307 < o → s1 o = s o := fun o ho => by
    rw [← hS1]
    simp (disch := omega) only [rs_same, rs_ne, rs_rs, ru_same, ru_ne, ne_eq]
  have q1 : s1 300 0 = s 6 0 ∧ s1 300 1 = s 6 1 := by
    rw [← hS1]
    simp (disch := omega) only [rs_same, rs_ne, rs_rs, ru_same, ru_ne, ne_eq, and_self]
  have q3 : ∀ f : Int → Int, ∀ c, 0 ≤ c → c < 1600 → cns f 1600 0 c = 0 := fun f c c1 c2 => if_pos ⟨c1, c2⟩
  have q2 : ∀ c, 0 ≤ c → c < 1600 → s1 301 c = 0 ∧ s1 302 c = 0 ∧ s1 303 c = 0 ∧ s1 304 c = 0 ∧ s1 305 c = 0 ∧ s1 306 c = 0 := fun c c1 c2 => by
    rw [← hS1]
    simp (disch := omega) only [rs_same, rs_ne, rs_rs, ru_same, ru_ne, ne_eq, q3 _ c c1 c2, and_self]
  have hB : Bd W s1 s1 0 := by
    refine ⟨fun o _ _ _ _ _ _ => rfl, fun c c1 c2 => ?_, fun l l1 l2 => by omega⟩
    have x := q2 c c1 c2
    rw [x.1, x.2.1, x.2.2.1, x.2.2.2.1, x.2.2.2.2.1, LO_z, SP_z, SM_z]
    exact ⟨rfl, rfl, rfl, rfl, rfl⟩
  have hloop : ∃ s', qB_drawLines_14 LF (z + 300) (z + 6) (J 0) (hi z TD g w s1) = rV (hi z TD g w s') ∧ Bd W s1 s' n := by
    refine loopI (S := Int × CT) (fun k q => qB_drawLines_14 k (z + 300) (z + 6) (J q.1) (hi z TD g w q.2)) (fun X => ∃ s', X = rV (hi z TD g w s') ∧ Bd W s1 s' n) (fun q => (0 ≤ q.1 ∧ q.1 ≤ n) ∧ Bd W s1 q.2 q.1) (fun q => n - q.1) (by intro q hq; omega) (fun k q hq ih => ?_) (0, s1) ⟨⟨by show (0 : Int) ≤ 0; omega, by show 0 ≤ n; omega⟩, hB⟩ (by show n - 0 < 20000; omega)
    obtain ⟨l, u⟩ := q
    obtain ⟨⟨hl, hl2⟩, hu⟩ := hq
    change 0 ≤ l at hl
    change l ≤ n at hl2
    change Bd W s1 u l at hu
    have f3 : u 6 3 = n := by rw [hu.1 6 (by decide) (by decide) (by decide) (by decide) (by decide) (by decide), q0 6 (by decide), hv.1]
    show ∃ s', qB_drawLines_14_b (qB_drawLines_14 k) (z + 300) (z + 6) (J l) (hi z TD g w u) = rV (hi z TD g w s') ∧ Bd W s1 s' n
    unfold qB_drawLines_14_b
    simp (disch := first | assumption | omega) only [↓gR_D0, ↓gR_D1, ↓gR_D2, ↓gR_D3, ↓gR_D4, ↓gR_D5, ↓gR_D6, ↓gR_D7, ↓gR_D8, ↓gR_D9, ↓gR_D10, ↓gI_D11, ↓pV_D11, ↓isO_D, ↓gI_T0, ↓pV_T0, ↓gR_T1, ↓isO_T, ↓rd_T2, ↓wr_T2, ↓gI_U0, ↓pV_U0, ↓gR_U1, ↓isO_U, ↓rd_U2, ↓wr_U2, ↓gI_Ps0, ↓pV_Ps0, ↓gI_Ps1, ↓pV_Ps1, ↓gI_Ps2, ↓pV_Ps2, ↓gI_Ps3, ↓pV_Ps3, ↓gI_Ps4, ↓pV_Ps4, ↓isO_Ps, ↓gI_N0, ↓pV_N0, ↓gI_N1, ↓pV_N1, ↓gI_N2, ↓pV_N2, ↓gI_N3, ↓pV_N3, ↓gR_N4, ↓gR_N5, ↓isO_N, ↓rd_NL, ↓gI_NB0, ↓pV_NB0, ↓gR_NB1, ↓gR_NB2, ↓isO_NB, ↓rd_NC, ↓wr_NC, ↓ln_NC, ↓rd_NP, ↓wr_NP, ↓ln_NP, ↓gI_V0, ↓pV_V0, ↓gI_V1, ↓pV_V1, ↓gI_V2, ↓pV_V2, ↓gI_V3, ↓pV_V3, ↓gR_V4, ↓gR_V5, ↓isO_V, ↓rd_VL, ↓gI_VB0, ↓pV_VB0, ↓gR_VB1, ↓gR_VB2, ↓isO_VB, ↓rd_VC, ↓wr_VC, ↓ln_VC, ↓rd_VP, ↓wr_VP, ↓ln_VP, ↓rd_SL, ↓rd_KP, ↓wr_KP, ↓gI_H0, ↓pV_H0, ↓gI_H1, ↓pV_H1, ↓gR_H2, ↓isO_H, ↓rd_HP, ↓gI_B0, ↓pV_B0, ↓gI_B1, ↓pV_B1, ↓gR_B2, ↓gR_B3, ↓gR_B4, ↓gR_B5, ↓gR_B6, ↓gR_B7, ↓gR_B8, ↓isO_B, ↓rd_B301, ↓wr_B301, ↓ln_B301, ↓rd_B302, ↓wr_B302, ↓ln_B302, ↓rd_B303, ↓wr_B303, ↓ln_B303, ↓rd_B304, ↓wr_B304, ↓ln_B304, ↓rd_B305, ↓wr_B305, ↓ln_B305, ↓rd_B306, ↓wr_B306, ↓ln_B306, ↓rd_B307, ↓wr_B307, ↓ln_B307, ↓gR_Tv, ↓isO_Tv, ↓rd_Tv9, ↓wr_Tv9, ↓ln_Tv9, pV_D11, pV_T0, rd_T2, wr_T2, pV_U0, rd_U2, wr_U2, pV_Ps0, pV_Ps1, pV_Ps2, pV_Ps3, pV_Ps4, pV_N0, pV_N1, pV_N2, pV_N3, rd_NL, pV_NB0, rd_NC, wr_NC, rd_NP, wr_NP, pV_V0, pV_V1, pV_V2, pV_V3, rd_VL, pV_VB0, rd_VC, wr_VC, rd_VP, wr_VP, rd_SL, rd_KP, wr_KP, pV_H0, pV_H1, rd_HP, pV_B0, pV_B1, rd_B301, wr_B301, rd_B302, wr_B302, rd_B303, wr_B303, rd_B304, wr_B304, rd_B305, wr_B305, rd_B306, wr_B306, rd_B307, wr_B307, rd_Tv9, wr_Tv9, J_l, J_neg, J_add, J_sub, J_mul, J_lt, J_le, J_eq, J_div2, J_rem2, J_shl1, J_orp, J_or, J_and, J_shr, J_ushr, J_max, J_min, J_abs, J_b0, ↓b0_ite, ↓b0_ite2, b0_ite, bI_r, bV_r, b01_ite, rZ_b, K_l, J_long, M_in, f3]
    by_cases hc : l < n
    · have hl8 : 0 ≤ l ∧ l < 8 := by omega
      have hLn := isLn_now hl8
      have ha2 : 11 + 3 * l.toNat + 2 < 300 := by omega
      have hv1 : LV s1 (11 + 3 * l.toNat) W l := by
        have := hv.2 l hl hc
        unfold LV at *
        rw [q0 _ (by omega), q0 _ (by omega), q0 _ (by omega)]
        exact this
      have hvu : LV u (11 + 3 * l.toNat) W l := LV_fr hu.1 ha2 hv1
      have hgl := hG l hl hc
      obtain ⟨u', c1, c2⟩ := C_drawLine (w := w) (z := z) (g := g) hg hLn ha2 hv1 hl8 (fun i i1 i2 => hG i i1 (by omega)) hu
      rw [if_pos hc]
      simp (disch := first | assumption | omega) only [↓gR_D0, ↓gR_D1, ↓gR_D2, ↓gR_D3, ↓gR_D4, ↓gR_D5, ↓gR_D6, ↓gR_D7, ↓gR_D8, ↓gR_D9, ↓gR_D10, ↓gI_D11, ↓pV_D11, ↓isO_D, ↓gI_T0, ↓pV_T0, ↓gR_T1, ↓isO_T, ↓rd_T2, ↓wr_T2, ↓gI_U0, ↓pV_U0, ↓gR_U1, ↓isO_U, ↓rd_U2, ↓wr_U2, ↓gI_Ps0, ↓pV_Ps0, ↓gI_Ps1, ↓pV_Ps1, ↓gI_Ps2, ↓pV_Ps2, ↓gI_Ps3, ↓pV_Ps3, ↓gI_Ps4, ↓pV_Ps4, ↓isO_Ps, ↓gI_N0, ↓pV_N0, ↓gI_N1, ↓pV_N1, ↓gI_N2, ↓pV_N2, ↓gI_N3, ↓pV_N3, ↓gR_N4, ↓gR_N5, ↓isO_N, ↓rd_NL, ↓gI_NB0, ↓pV_NB0, ↓gR_NB1, ↓gR_NB2, ↓isO_NB, ↓rd_NC, ↓wr_NC, ↓ln_NC, ↓rd_NP, ↓wr_NP, ↓ln_NP, ↓gI_V0, ↓pV_V0, ↓gI_V1, ↓pV_V1, ↓gI_V2, ↓pV_V2, ↓gI_V3, ↓pV_V3, ↓gR_V4, ↓gR_V5, ↓isO_V, ↓rd_VL, ↓gI_VB0, ↓pV_VB0, ↓gR_VB1, ↓gR_VB2, ↓isO_VB, ↓rd_VC, ↓wr_VC, ↓ln_VC, ↓rd_VP, ↓wr_VP, ↓ln_VP, ↓rd_SL, ↓rd_KP, ↓wr_KP, ↓gI_H0, ↓pV_H0, ↓gI_H1, ↓pV_H1, ↓gR_H2, ↓isO_H, ↓rd_HP, ↓gI_B0, ↓pV_B0, ↓gI_B1, ↓pV_B1, ↓gR_B2, ↓gR_B3, ↓gR_B4, ↓gR_B5, ↓gR_B6, ↓gR_B7, ↓gR_B8, ↓isO_B, ↓rd_B301, ↓wr_B301, ↓ln_B301, ↓rd_B302, ↓wr_B302, ↓ln_B302, ↓rd_B303, ↓wr_B303, ↓ln_B303, ↓rd_B304, ↓wr_B304, ↓ln_B304, ↓rd_B305, ↓wr_B305, ↓ln_B305, ↓rd_B306, ↓wr_B306, ↓ln_B306, ↓rd_B307, ↓wr_B307, ↓ln_B307, ↓gR_Tv, ↓isO_Tv, ↓rd_Tv9, ↓wr_Tv9, ↓ln_Tv9, pV_D11, pV_T0, rd_T2, wr_T2, pV_U0, rd_U2, wr_U2, pV_Ps0, pV_Ps1, pV_Ps2, pV_Ps3, pV_Ps4, pV_N0, pV_N1, pV_N2, pV_N3, rd_NL, pV_NB0, rd_NC, wr_NC, rd_NP, wr_NP, pV_V0, pV_V1, pV_V2, pV_V3, rd_VL, pV_VB0, rd_VC, wr_VC, rd_VP, wr_VP, rd_SL, rd_KP, wr_KP, pV_H0, pV_H1, rd_HP, pV_B0, pV_B1, rd_B301, wr_B301, rd_B302, wr_B302, rd_B303, wr_B303, rd_B304, wr_B304, rd_B305, wr_B305, rd_B306, wr_B306, rd_B307, wr_B307, rd_Tv9, wr_Tv9, J_l, J_neg, J_add, J_sub, J_mul, J_lt, J_le, J_eq, J_div2, J_rem2, J_shl1, J_orp, J_or, J_and, J_shr, J_ushr, J_max, J_min, J_abs, J_b0, ↓b0_ite, ↓b0_ite2, b0_ite, bI_r, bV_r, b01_ite, rZ_b, K_l, J_long, M_in, isO_L hLn, L_steps hLn hvu hgl.1, c1]
      exact ih (l + 1, u') ⟨⟨by show 0 ≤ l + 1; omega, by show l + 1 ≤ n; omega⟩, c2⟩ (by show n - (l + 1) < n - l; omega)
    · rw [if_neg hc]
      rw [show l = n by omega] at hu
      exact ⟨u, rfl, hu⟩
  obtain ⟨s', c1, c2⟩ := hloop
  refine ⟨s', c1, fun o ho => ?_, ?_, ⟨c2.2.1, c2.2.2⟩, fun c c1' c2' => ?_⟩
  · rw [c2.1 o (by omega) (by omega) (by omega) (by omega) (by omega) (by omega), q0 o ho]
  · rw [c2.1 300 (by decide) (by decide) (by decide) (by decide) (by decide) (by decide)]
    exact q1
  · rw [c2.1 306 (by decide) (by decide) (by decide) (by decide) (by decide) (by decide)]
    exact (q2 c c1' c2').2.2.2.2.2
end CE
