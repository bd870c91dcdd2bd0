/-! the class draws its lines -/
section CD
variable {z : Nat} {g : XH} {w : Int64} {s s0 : CT} {W : Int → Int} {l r k j c t n i v p : Int} {a b : Nat} {q : Int → Int} {h : XH}
theorem LV_rs (hb : a + 2 < b) (h : LV s a W l) : LV (rs s b q) a W l := by
  unfold LV at *
  rw [rs_ne (show a ≠ b by omega), rs_ne (show a + 1 ≠ b by omega), rs_ne (show a + 2 ≠ b by omega)]
  exact h
theorem C_cellAt : qD_cellAt (J i) (J j) h = rI (J (40 * j + i)) h := by
  unfold qD_cellAt
  simp (disch := omega) only [J_l, J_neg, J_add, J_sub, J_mul, J_lt, J_le, J_eq, J_div2, J_rem2, J_shl1, J_orp, J_or, J_and, J_shr, J_ushr, J_max, J_min, J_abs, J_b0, ↓b0_ite, ↓b0_ite2, b0_ite, bI_r, bV_r, b01_ite, rZ_b, K_l, J_long, M_in]
  rw [Int.mul_comm]
theorem acrF_J {j : Nat} (h : j < 8) : acrF j = J (dxI j) := by
  have h' : j = 0 ∨ j = 1 ∨ j = 2 ∨ j = 3 ∨ j = 4 ∨ j = 5 ∨ j = 6 ∨ j = 7 := by omega
  rcases h' with rfl | rfl | rfl | rfl | rfl | rfl | rfl | rfl <;> rfl
theorem dwnF_J {j : Nat} (h : j < 8) : dwnF j = J (dyI j) := by
  have h' : j = 0 ∨ j = 1 ∨ j = 2 ∨ j = 3 ∨ j = 4 ∨ j = 5 ∨ j = 6 ∨ j = 7 := by omega
  rcases h' with rfl | rfl | rfl | rfl | rfl | rfl | rfl | rfl <;> rfl
theorem acr_hi {T : Nat → Option Sh} {k : Int32 → XR} (h : GOk g z) (h0 : 0 ≤ i ∧ i < 8) : gS (hi z T g w s) 0 (fun a => rdI (hi z T g w s) a (J i) k) = k (J (dxI i)) := by
  unfold hi
  rw [acr_hp h h0.1 h0.2, acrF_J (by omega), Int.toNat_of_nonneg h0.1]
theorem dwn_hi {T : Nat → Option Sh} {k : Int32 → XR} (h : GOk g z) (h0 : 0 ≤ i ∧ i < 8) : gS (hi z T g w s) 1 (fun a => rdI (hi z T g w s) a (J i) k) = k (J (dyI i)) := by
  unfold hi
  rw [dwn_hp h h0.1 h0.2, dwnF_J (by omega), Int.toNat_of_nonneg h0.1]
def dsM (s : CT) (l p v c : Int) : CT := rs (rs s 302 (ru (s 302) c (ior (s 302 c) (pw (8 * (v % 4) + l))))) 301 (ru (s 301) p (ior (s 301 p) (pw l)))
theorem C_drawStep (hg : GOk g z) (hl : 0 ≤ l ∧ l < 8) (hv : 0 ≤ v ∧ v < 8) (hc : 0 ≤ c ∧ c < 1600) (hp : c + (40 * dyI v + dxI v) = p) (hp2 : 0 ≤ p ∧ p < 1600) (h1 : 0 ≤ s 301 p) (h2 : 0 ≤ s 302 (if v < 4 then c else p)) : qB_drawStep (z + 300) (J c) (J v) (J l) (hi z TD g w s) = rI (J p) (hi z TD g w (dsM s l p v (if v < 4 then c else p))) := by
  have d1 := dxI_in v
  have d2 := dyI_in v
  unfold qB_drawStep dsM
  simp (disch := omega) only [↓gR_D0, ↓gR_D1, ↓gR_D2, ↓gR_D3, ↓gR_D4, ↓gR_D5, ↓gR_D6, ↓gR_D7, ↓gR_D8, ↓gR_D9, ↓gR_D10, ↓gI_D11, ↓pV_D11, ↓isO_D, ↓gI_T0, ↓pV_T0, ↓gR_T1, ↓isO_T, ↓rd_T2, ↓wr_T2, ↓gI_U0, ↓pV_U0, ↓gR_U1, ↓isO_U, ↓rd_U2, ↓wr_U2, ↓gI_Ps0, ↓pV_Ps0, ↓gI_Ps1, ↓pV_Ps1, ↓gI_Ps2, ↓pV_Ps2, ↓gI_Ps3, ↓pV_Ps3, ↓gI_Ps4, ↓pV_Ps4, ↓isO_Ps, ↓gI_N0, ↓pV_N0, ↓gI_N1, ↓pV_N1, ↓gI_N2, ↓pV_N2, ↓gI_N3, ↓pV_N3, ↓gR_N4, ↓gR_N5, ↓isO_N, ↓rd_NL, ↓gI_NB0, ↓pV_NB0, ↓gR_NB1, ↓gR_NB2, ↓isO_NB, ↓rd_NC, ↓wr_NC, ↓ln_NC, ↓rd_NP, ↓wr_NP, ↓ln_NP, ↓gI_V0, ↓pV_V0, ↓gI_V1, ↓pV_V1, ↓gI_V2, ↓pV_V2, ↓gI_V3, ↓pV_V3, ↓gR_V4, ↓gR_V5, ↓isO_V, ↓rd_VL, ↓gI_VB0, ↓pV_VB0, ↓gR_VB1, ↓gR_VB2, ↓isO_VB, ↓rd_VC, ↓wr_VC, ↓ln_VC, ↓rd_VP, ↓wr_VP, ↓ln_VP, ↓rd_SL, ↓rd_KP, ↓wr_KP, ↓gI_H0, ↓pV_H0, ↓gI_H1, ↓pV_H1, ↓gR_H2, ↓isO_H, ↓rd_HP, ↓gI_B0, ↓pV_B0, ↓gI_B1, ↓pV_B1, ↓gR_B2, ↓gR_B3, ↓gR_B4, ↓gR_B5, ↓gR_B6, ↓gR_B7, ↓gR_B8, ↓isO_B, ↓rd_B301, ↓wr_B301, ↓ln_B301, ↓rd_B302, ↓wr_B302, ↓ln_B302, ↓rd_B303, ↓wr_B303, ↓ln_B303, ↓rd_B304, ↓wr_B304, ↓ln_B304, ↓rd_B305, ↓wr_B305, ↓ln_B305, ↓rd_B306, ↓wr_B306, ↓ln_B306, ↓rd_B307, ↓wr_B307, ↓ln_B307, ↓gR_Tv, ↓isO_Tv, ↓rd_Tv9, ↓wr_Tv9, ↓ln_Tv9, pV_D11, pV_T0, rd_T2, wr_T2, pV_U0, rd_U2, wr_U2, pV_Ps0, pV_Ps1, pV_Ps2, pV_Ps3, pV_Ps4, pV_N0, pV_N1, pV_N2, pV_N3, rd_NL, pV_NB0, rd_NC, wr_NC, rd_NP, wr_NP, pV_V0, pV_V1, pV_V2, pV_V3, rd_VL, pV_VB0, rd_VC, wr_VC, rd_VP, wr_VP, rd_SL, rd_KP, wr_KP, pV_H0, pV_H1, rd_HP, pV_B0, pV_B1, rd_B301, wr_B301, rd_B302, wr_B302, rd_B303, wr_B303, rd_B304, wr_B304, rd_B305, wr_B305, rd_B306, wr_B306, rd_B307, wr_B307, rd_Tv9, wr_Tv9, J_l, J_neg, J_add, J_sub, J_mul, J_lt, J_le, J_eq, J_div2, J_rem2, J_shl1, J_orp, J_or, J_and, J_shr, J_ushr, J_max, J_min, J_abs, J_b0, ↓b0_ite, ↓b0_ite2, b0_ite, bI_r, bV_r, b01_ite, rZ_b, K_l, J_long, M_in, if_neg, if_pos, acr_hi hg hv, dwn_hi hg hv, C_cellAt, hp]
  unfold qB_drawStep_55
  split
  · rename_i h4
    rw [if_pos h4] at h2
    simp (disch := omega) only [↓gR_D0, ↓gR_D1, ↓gR_D2, ↓gR_D3, ↓gR_D4, ↓gR_D5, ↓gR_D6, ↓gR_D7, ↓gR_D8, ↓gR_D9, ↓gR_D10, ↓gI_D11, ↓pV_D11, ↓isO_D, ↓gI_T0, ↓pV_T0, ↓gR_T1, ↓isO_T, ↓rd_T2, ↓wr_T2, ↓gI_U0, ↓pV_U0, ↓gR_U1, ↓isO_U, ↓rd_U2, ↓wr_U2, ↓gI_Ps0, ↓pV_Ps0, ↓gI_Ps1, ↓pV_Ps1, ↓gI_Ps2, ↓pV_Ps2, ↓gI_Ps3, ↓pV_Ps3, ↓gI_Ps4, ↓pV_Ps4, ↓isO_Ps, ↓gI_N0, ↓pV_N0, ↓gI_N1, ↓pV_N1, ↓gI_N2, ↓pV_N2, ↓gI_N3, ↓pV_N3, ↓gR_N4, ↓gR_N5, ↓isO_N, ↓rd_NL, ↓gI_NB0, ↓pV_NB0, ↓gR_NB1, ↓gR_NB2, ↓isO_NB, ↓rd_NC, ↓wr_NC, ↓ln_NC, ↓rd_NP, ↓wr_NP, ↓ln_NP, ↓gI_V0, ↓pV_V0, ↓gI_V1, ↓pV_V1, ↓gI_V2, ↓pV_V2, ↓gI_V3, ↓pV_V3, ↓gR_V4, ↓gR_V5, ↓isO_V, ↓rd_VL, ↓gI_VB0, ↓pV_VB0, ↓gR_VB1, ↓gR_VB2, ↓isO_VB, ↓rd_VC, ↓wr_VC, ↓ln_VC, ↓rd_VP, ↓wr_VP, ↓ln_VP, ↓rd_SL, ↓rd_KP, ↓wr_KP, ↓gI_H0, ↓pV_H0, ↓gI_H1, ↓pV_H1, ↓gR_H2, ↓isO_H, ↓rd_HP, ↓gI_B0, ↓pV_B0, ↓gI_B1, ↓pV_B1, ↓gR_B2, ↓gR_B3, ↓gR_B4, ↓gR_B5, ↓gR_B6, ↓gR_B7, ↓gR_B8, ↓isO_B, ↓rd_B301, ↓wr_B301, ↓ln_B301, ↓rd_B302, ↓wr_B302, ↓ln_B302, ↓rd_B303, ↓wr_B303, ↓ln_B303, ↓rd_B304, ↓wr_B304, ↓ln_B304, ↓rd_B305, ↓wr_B305, ↓ln_B305, ↓rd_B306, ↓wr_B306, ↓ln_B306, ↓rd_B307, ↓wr_B307, ↓ln_B307, ↓gR_Tv, ↓isO_Tv, ↓rd_Tv9, ↓wr_Tv9, ↓ln_Tv9, pV_D11, pV_T0, rd_T2, wr_T2, pV_U0, rd_U2, wr_U2, pV_Ps0, pV_Ps1, pV_Ps2, pV_Ps3, pV_Ps4, pV_N0, pV_N1, pV_N2, pV_N3, rd_NL, pV_NB0, rd_NC, wr_NC, rd_NP, wr_NP, pV_V0, pV_V1, pV_V2, pV_V3, rd_VL, pV_VB0, rd_VC, wr_VC, rd_VP, wr_VP, rd_SL, rd_KP, wr_KP, pV_H0, pV_H1, rd_HP, pV_B0, pV_B1, rd_B301, wr_B301, rd_B302, wr_B302, rd_B303, wr_B303, rd_B304, wr_B304, rd_B305, wr_B305, rd_B306, wr_B306, rd_B307, wr_B307, rd_Tv9, wr_Tv9, J_l, J_neg, J_add, J_sub, J_mul, J_lt, J_le, J_eq, J_div2, J_rem2, J_shl1, J_orp, J_or, J_and, J_shr, J_ushr, J_max, J_min, J_abs, J_b0, ↓b0_ite, ↓b0_ite2, b0_ite, bI_r, bV_r, b01_ite, rZ_b, K_l, J_long, M_in, rs_same, rs_ne, rs_rs, ru_same, ru_ne, ne_eq]
  · rename_i h4
    rw [if_neg h4] at h2
    simp (disch := omega) only [↓gR_D0, ↓gR_D1, ↓gR_D2, ↓gR_D3, ↓gR_D4, ↓gR_D5, ↓gR_D6, ↓gR_D7, ↓gR_D8, ↓gR_D9, ↓gR_D10, ↓gI_D11, ↓pV_D11, ↓isO_D, ↓gI_T0, ↓pV_T0, ↓gR_T1, ↓isO_T, ↓rd_T2, ↓wr_T2, ↓gI_U0, ↓pV_U0, ↓gR_U1, ↓isO_U, ↓rd_U2, ↓wr_U2, ↓gI_Ps0, ↓pV_Ps0, ↓gI_Ps1, ↓pV_Ps1, ↓gI_Ps2, ↓pV_Ps2, ↓gI_Ps3, ↓pV_Ps3, ↓gI_Ps4, ↓pV_Ps4, ↓isO_Ps, ↓gI_N0, ↓pV_N0, ↓gI_N1, ↓pV_N1, ↓gI_N2, ↓pV_N2, ↓gI_N3, ↓pV_N3, ↓gR_N4, ↓gR_N5, ↓isO_N, ↓rd_NL, ↓gI_NB0, ↓pV_NB0, ↓gR_NB1, ↓gR_NB2, ↓isO_NB, ↓rd_NC, ↓wr_NC, ↓ln_NC, ↓rd_NP, ↓wr_NP, ↓ln_NP, ↓gI_V0, ↓pV_V0, ↓gI_V1, ↓pV_V1, ↓gI_V2, ↓pV_V2, ↓gI_V3, ↓pV_V3, ↓gR_V4, ↓gR_V5, ↓isO_V, ↓rd_VL, ↓gI_VB0, ↓pV_VB0, ↓gR_VB1, ↓gR_VB2, ↓isO_VB, ↓rd_VC, ↓wr_VC, ↓ln_VC, ↓rd_VP, ↓wr_VP, ↓ln_VP, ↓rd_SL, ↓rd_KP, ↓wr_KP, ↓gI_H0, ↓pV_H0, ↓gI_H1, ↓pV_H1, ↓gR_H2, ↓isO_H, ↓rd_HP, ↓gI_B0, ↓pV_B0, ↓gI_B1, ↓pV_B1, ↓gR_B2, ↓gR_B3, ↓gR_B4, ↓gR_B5, ↓gR_B6, ↓gR_B7, ↓gR_B8, ↓isO_B, ↓rd_B301, ↓wr_B301, ↓ln_B301, ↓rd_B302, ↓wr_B302, ↓ln_B302, ↓rd_B303, ↓wr_B303, ↓ln_B303, ↓rd_B304, ↓wr_B304, ↓ln_B304, ↓rd_B305, ↓wr_B305, ↓ln_B305, ↓rd_B306, ↓wr_B306, ↓ln_B306, ↓rd_B307, ↓wr_B307, ↓ln_B307, ↓gR_Tv, ↓isO_Tv, ↓rd_Tv9, ↓wr_Tv9, ↓ln_Tv9, pV_D11, pV_T0, rd_T2, wr_T2, pV_U0, rd_U2, wr_U2, pV_Ps0, pV_Ps1, pV_Ps2, pV_Ps3, pV_Ps4, pV_N0, pV_N1, pV_N2, pV_N3, rd_NL, pV_NB0, rd_NC, wr_NC, rd_NP, wr_NP, pV_V0, pV_V1, pV_V2, pV_V3, rd_VL, pV_VB0, rd_VC, wr_VC, rd_VP, wr_VP, rd_SL, rd_KP, wr_KP, pV_H0, pV_H1, rd_HP, pV_B0, pV_B1, rd_B301, wr_B301, rd_B302, wr_B302, rd_B303, wr_B303, rd_B304, wr_B304, rd_B305, wr_B305, rd_B306, wr_B306, rd_B307, wr_B307, rd_Tv9, wr_Tv9, J_l, J_neg, J_add, J_sub, J_mul, J_lt, J_le, J_eq, J_div2, J_rem2, J_shl1, J_orp, J_or, J_and, J_shr, J_ushr, J_max, J_min, J_abs, J_b0, ↓b0_ite, ↓b0_ite2, b0_ite, bI_r, bV_r, b01_ite, rZ_b, K_l, J_long, M_in, rs_same, rs_ne, rs_rs, ru_same, ru_ne, ne_eq]
def dtM (s : CT) (l t c v : Int) : CT := rs (rs (rs (rs s 307 (ru (s 307) (20 * l + t) c)) 303 (ru (s 303) c (s 303 c + 1))) 304 (ru (s 304) c (ior (s 304 c) (pw l)))) 305 (ru (s 305) c (max (s 305 c) v))
theorem C_drawStation (ha : isLn TD a) (ha2 : a + 2 < 300) (hv : LV s a W l) (hb : LB W l) (hl : 0 ≤ l ∧ l < 8) (ht : 0 ≤ t ∧ t < 20) (hc : 0 ≤ c ∧ c < 1600) (h1 : 0 ≤ s 304 c) (h2 : 0 ≤ s 305 c ∧ s 305 c < 100) : qB_drawStation (z + 300) (z + a) (J l) (J t) (J c) (hi z TD g w s) = rV (hi z TD g w (dtM s l t c (cZ W l + t % 3))) := by
  have b1 := hb.2.2.1
  unfold qB_drawStation dtM
  simp (disch := (first | assumption | omega | (repeat (first | assumption | refine LV_rs (by omega) ?_)))) only [↓gR_D0, ↓gR_D1, ↓gR_D2, ↓gR_D3, ↓gR_D4, ↓gR_D5, ↓gR_D6, ↓gR_D7, ↓gR_D8, ↓gR_D9, ↓gR_D10, ↓gI_D11, ↓pV_D11, ↓isO_D, ↓gI_T0, ↓pV_T0, ↓gR_T1, ↓isO_T, ↓rd_T2, ↓wr_T2, ↓gI_U0, ↓pV_U0, ↓gR_U1, ↓isO_U, ↓rd_U2, ↓wr_U2, ↓gI_Ps0, ↓pV_Ps0, ↓gI_Ps1, ↓pV_Ps1, ↓gI_Ps2, ↓pV_Ps2, ↓gI_Ps3, ↓pV_Ps3, ↓gI_Ps4, ↓pV_Ps4, ↓isO_Ps, ↓gI_N0, ↓pV_N0, ↓gI_N1, ↓pV_N1, ↓gI_N2, ↓pV_N2, ↓gI_N3, ↓pV_N3, ↓gR_N4, ↓gR_N5, ↓isO_N, ↓rd_NL, ↓gI_NB0, ↓pV_NB0, ↓gR_NB1, ↓gR_NB2, ↓isO_NB, ↓rd_NC, ↓wr_NC, ↓ln_NC, ↓rd_NP, ↓wr_NP, ↓ln_NP, ↓gI_V0, ↓pV_V0, ↓gI_V1, ↓pV_V1, ↓gI_V2, ↓pV_V2, ↓gI_V3, ↓pV_V3, ↓gR_V4, ↓gR_V5, ↓isO_V, ↓rd_VL, ↓gI_VB0, ↓pV_VB0, ↓gR_VB1, ↓gR_VB2, ↓isO_VB, ↓rd_VC, ↓wr_VC, ↓ln_VC, ↓rd_VP, ↓wr_VP, ↓ln_VP, ↓rd_SL, ↓rd_KP, ↓wr_KP, ↓gI_H0, ↓pV_H0, ↓gI_H1, ↓pV_H1, ↓gR_H2, ↓isO_H, ↓rd_HP, ↓gI_B0, ↓pV_B0, ↓gI_B1, ↓pV_B1, ↓gR_B2, ↓gR_B3, ↓gR_B4, ↓gR_B5, ↓gR_B6, ↓gR_B7, ↓gR_B8, ↓isO_B, ↓rd_B301, ↓wr_B301, ↓ln_B301, ↓rd_B302, ↓wr_B302, ↓ln_B302, ↓rd_B303, ↓wr_B303, ↓ln_B303, ↓rd_B304, ↓wr_B304, ↓ln_B304, ↓rd_B305, ↓wr_B305, ↓ln_B305, ↓rd_B306, ↓wr_B306, ↓ln_B306, ↓rd_B307, ↓wr_B307, ↓ln_B307, ↓gR_Tv, ↓isO_Tv, ↓rd_Tv9, ↓wr_Tv9, ↓ln_Tv9, pV_D11, pV_T0, rd_T2, wr_T2, pV_U0, rd_U2, wr_U2, pV_Ps0, pV_Ps1, pV_Ps2, pV_Ps3, pV_Ps4, pV_N0, pV_N1, pV_N2, pV_N3, rd_NL, pV_NB0, rd_NC, wr_NC, rd_NP, wr_NP, pV_V0, pV_V1, pV_V2, pV_V3, rd_VL, pV_VB0, rd_VC, wr_VC, rd_VP, wr_VP, rd_SL, rd_KP, wr_KP, pV_H0, pV_H1, rd_HP, pV_B0, pV_B1, rd_B301, wr_B301, rd_B302, wr_B302, rd_B303, wr_B303, rd_B304, wr_B304, rd_B305, wr_B305, rd_B306, wr_B306, rd_B307, wr_B307, rd_Tv9, wr_Tv9, ↓isO_L, ↓gI_L0, ↓pV_L0, ↓gI_L1, ↓pV_L1, ↓gI_L2, ↓pV_L2, ↓gI_L3, ↓pV_L3, ↓gR_L4, ↓rd_L4, ↓wr_L4, ↓gR_L5, ↓rd_L5, ↓wr_L5, pV_L0, pV_L1, pV_L2, pV_L3, rd_L4, wr_L4, rd_L5, wr_L5, J_l, J_neg, J_add, J_sub, J_mul, J_lt, J_le, J_eq, J_div2, J_rem2, J_shl1, J_orp, J_or, J_and, J_shr, J_ushr, J_max, J_min, J_abs, J_b0, ↓b0_ite, ↓b0_ite2, b0_ite, bI_r, bV_r, b01_ite, rZ_b, K_l, J_long, M_in, rs_same, rs_ne, rs_rs, ru_same, ru_ne, ne_eq, L_longOf (W := W) (l := l) ha, Int.mul_comm l 20]
/-- a line's drawing after k steps and t stations -/
def DrI (W : Int → Int) (s0 s : CT) (l k t : Int) : Prop :=
  (∀ o, o ≠ 301 → o ≠ 302 → o ≠ 303 → o ≠ 304 → o ≠ 305 → o ≠ 307 → s o = s0 o) ∧ (∀ c, 0 ≤ c → c < 1600 → s 301 c = LOp W l k c ∧ s 302 c = SPp W l k c ∧ s 303 c = SN W l c + cs W l t c ∧ s 304 c = SMp W l t c ∧ s 305 c = max (LN W l c) (ml W l t c)) ∧ (∀ i, 0 ≤ i → i < t → s 307 (20 * l + i) = sc W l i) ∧ ∀ i, i < 20 * l → s 307 i = s0 307 i
theorem edge_div (hg : LG W l) (h0 : 0 ≤ k) (h1 : k < len W l) : edge W l k / 4 = (if Dw W l k < 4 then Ps W l k else Ps W l (k + 1)) ∧ edge W l k % 4 = Dw W l k % 4 := by
  have a3 := Dw_in hg h0 h1
  unfold edge
  constructor <;> omega
theorem DrI_step (hl : 0 ≤ l ∧ l < 8) (hg : LG W l) (hk : 0 ≤ k) (hk2 : k < len W l) (h : DrI W s0 s l k t) : DrI W s0 (dsM s l (Ps W l (k + 1)) (Dw W l k) (if Dw W l k < 4 then Ps W l k else Ps W l (k + 1))) l (k + 1) t := by
  obtain ⟨h1, h2, h3, h4⟩ := h
  have a1 := Ps_in hg (k := k + 1) (by omega) (by omega)
  have a0 := Ps_in hg (k := k) (by omega) (by omega)
  have ed := edge_div hg hk hk2
  rw [← ed.1]
  have a2 := edge_in hg hk hk2
  unfold dsM
  rw [← ed.2]
  refine ⟨fun o o1 o2 o3 o4 o5 o6 => ?_, fun c c1 c2 => ⟨?_, ?_, ?_, ?_, ?_⟩, fun i i1 i2 => ?_, fun i hi => ?_⟩
  · rw [rs_ne o1, rs_ne o2, h1 o o1 o2 o3 o4 o5 o6]
  · simp (disch := omega) only [rs_same, rs_ne, rs_rs, ru_same, ru_ne, ne_eq]
    rw [LOp_s hl hk]
    by_cases e : c = Ps W l (k + 1)
    · rw [e, ru_same, if_pos rfl, (h2 _ a1.1 a1.2).1]
    · rw [ru_ne e, if_neg e, (h2 c c1 c2).1]
  · simp (disch := omega) only [rs_same, rs_ne, rs_rs, ru_same, ru_ne, ne_eq]
    rw [SPp_s hl hk]
    by_cases e : c = edge W l k / 4
    · rw [e, ru_same, if_pos rfl, (h2 _ (by omega) (by omega)).2.1]
    · rw [ru_ne e, if_neg e, (h2 c c1 c2).2.1]
  · simp (disch := omega) only [rs_same, rs_ne, rs_rs, ru_same, ru_ne, ne_eq]
    exact (h2 c c1 c2).2.2.1
  · simp (disch := omega) only [rs_same, rs_ne, rs_rs, ru_same, ru_ne, ne_eq]
    exact (h2 c c1 c2).2.2.2.1
  · simp (disch := omega) only [rs_same, rs_ne, rs_rs, ru_same, ru_ne, ne_eq]
    exact (h2 c c1 c2).2.2.2.2
  · simp (disch := omega) only [rs_same, rs_ne, rs_rs, ru_same, ru_ne, ne_eq]
    exact h3 i i1 i2
  · simp (disch := omega) only [rs_same, rs_ne, rs_rs, ru_same, ru_ne, ne_eq]
    exact h4 i hi
theorem DrI_stat (hl : 0 ≤ l ∧ l < 8) (hg : LG W l) (ht : 0 ≤ t) (ht2 : t < cT W l) (h : DrI W s0 s l k t) : DrI W s0 (dtM s l t (sc W l t) (cZ W l + t % 3)) l k (t + 1) := by
  obtain ⟨h1, h2, h3, h4⟩ := h
  have a1 := sc_in hg ht ht2
  have a2 := hg.1.2.2.1
  unfold dtM
  refine ⟨fun o o1 o2 o3 o4 o5 o6 => ?_, fun c c1 c2 => ⟨?_, ?_, ?_, ?_, ?_⟩, fun i i1 i2 => ?_, fun i hi => ?_⟩
  · rw [rs_ne o5, rs_ne o4, rs_ne o3, rs_ne o6, h1 o o1 o2 o3 o4 o5 o6]
  · simp (disch := omega) only [rs_same, rs_ne, rs_rs, ru_same, ru_ne, ne_eq]
    exact (h2 c c1 c2).1
  · simp (disch := omega) only [rs_same, rs_ne, rs_rs, ru_same, ru_ne, ne_eq]
    exact (h2 c c1 c2).2.1
  · simp (disch := omega) only [rs_same, rs_ne, rs_rs, ru_same, ru_ne, ne_eq]
    rw [cs_s ht]
    by_cases e : c = sc W l t
    · rw [e, ru_same, if_pos rfl, (h2 _ a1.1 a1.2).2.2.1, Int.add_assoc]
    · rw [ru_ne e, if_neg e, (h2 c c1 c2).2.2.1]
  · simp (disch := omega) only [rs_same, rs_ne, rs_rs, ru_same, ru_ne, ne_eq]
    rw [SMp_s hl ht]
    by_cases e : c = sc W l t
    · rw [e, ru_same, if_pos rfl, (h2 _ a1.1 a1.2).2.2.2.1]
    · rw [ru_ne e, if_neg e, (h2 c c1 c2).2.2.2.1]
  · simp (disch := omega) only [rs_same, rs_ne, rs_rs, ru_same, ru_ne, ne_eq]
    rw [ml_s ht]
    have a3 := ml_nn (W := W) (l := l) (t := t) (c := c) ht (by omega)
    by_cases e : c = sc W l t
    · rw [e, ru_same, if_pos rfl, (h2 _ a1.1 a1.2).2.2.2.2]
      omega
    · rw [ru_ne e, if_neg e, (h2 c c1 c2).2.2.2.2]
      omega
  · simp (disch := omega) only [rs_same, rs_ne, rs_rs, ru_same, ru_ne, ne_eq]
    by_cases e : i = t
    · rw [e, ru_same]
    · rw [ru_ne (by omega), h3 i i1 (by omega)]
  · simp (disch := omega) only [rs_same, rs_ne, rs_rs, ru_same, ru_ne, ne_eq]
    exact h4 i hi
/-- the next station after k steps -/
def nx (W : Int → Int) (l k t : Int) : Prop := 1 ≤ t ∧ t ≤ cT W l ∧ st W l (t - 1) ≤ k ∧ (t < cT W l → k < st W l t)
theorem LV_fr (h : ∀ o, o ≠ 301 → o ≠ 302 → o ≠ 303 → o ≠ 304 → o ≠ 305 → o ≠ 307 → s o = s0 o) (ha : a + 2 < 300) (hv : LV s0 a W l) : LV s a W l := by
  unfold LV at *
  rw [h a (by omega) (by omega) (by omega) (by omega) (by omega) (by omega), h (a + 1) (by omega) (by omega) (by omega) (by omega) (by omega) (by omega), h (a + 2) (by omega) (by omega) (by omega) (by omega) (by omega) (by omega)]
  exact hv
theorem SPp_nn : 0 ≤ SPp W l k c := (mk_lt (by omega)).1
theorem C_draw75 {k48 : Nat → Nat → Int32 → Int32 → Int32 → Int32 → Int32 → Int32 → XH → XR} (hg : GOk g z) (ha : isLn TD a) (ha2 : a + 2 < 300) (hv : LV s0 a W l) (hl : 0 ≤ l ∧ l < 8) (hG : ∀ i, 0 ≤ i → i ≤ l → LG W i) (hr : 0 ≤ r) (hr2 : r < cN W l - 1) (ht : nx W l (pr W l r) t) (h : DrI W s0 s l (pr W l r) t) : ∃ t' s', qB_drawLine_75 k48 LF (z + 300) (z + a) (J l) (J (len W l)) (J (Ps W l (pr W l r + 0))) (J (pr W l r + 0)) (J t) (J r) (J (wy W l r)) (J (sp W l r - 0)) (hi z TD g w s) = k48 (z + 300) (z + a) (J l) (J (len W l)) (J (Ps W l (pr W l (r + 1)))) (J (pr W l (r + 1))) (J t') (J (r + 1)) (hi z TD g w s') ∧ DrI W s0 s' l (pr W l (r + 1)) t' ∧ nx W l (pr W l (r + 1)) t' := by
  have hgl := hG l hl.1 (Int.le_refl l)
  have b1 := pr_bd hgl.1 hr (by omega)
  have b2 := sp_bd hgl.1 hr hr2
  have b3 := hgl.2.1 r hr hr2
  have b4 := wy_le (W := W) (l := l) (r := r)
  have b5 := len_bd hgl.1
  have b6 := pr_mono hgl (r := r + 1) (k := cN W l - 1) (by omega) (by omega) (by omega)
  have b7 : pr W l (r + 1) = pr W l r + sp W l r := pr_s hr
  have b8 := hgl.1.2.1
  change pr W l (r + 1) + _ ≤ len W l at b6
  refine loopI (S := Int × Int × CT) (fun k q => qB_drawLine_75 k48 k (z + 300) (z + a) (J l) (J (len W l)) (J (Ps W l (pr W l r + q.1))) (J (pr W l r + q.1)) (J q.2.1) (J r) (J (wy W l r)) (J (sp W l r - q.1)) (hi z TD g w q.2.2)) (fun X => ∃ t' s', X = k48 (z + 300) (z + a) (J l) (J (len W l)) (J (Ps W l (pr W l (r + 1)))) (J (pr W l (r + 1))) (J t') (J (r + 1)) (hi z TD g w s') ∧ DrI W s0 s' l (pr W l (r + 1)) t' ∧ nx W l (pr W l (r + 1)) t') (fun q => (0 ≤ q.1 ∧ q.1 ≤ sp W l r) ∧ DrI W s0 q.2.2 l (pr W l r + q.1) q.2.1 ∧ nx W l (pr W l r + q.1) q.2.1) (fun q => sp W l r - q.1) (by intro q hq; omega) (fun k q hq ih => ?_) (0, t, s) ⟨⟨by show (0 : Int) ≤ 0; omega, by show 0 ≤ sp W l r; omega⟩, by show DrI W s0 s l (pr W l r + 0) t; rw [Int.add_zero]; exact h, by show nx W l (pr W l r + 0) t; rw [Int.add_zero]; exact ht⟩ (by show sp W l r - 0 < 20000; omega)
  obtain ⟨j, t, u⟩ := q
  obtain ⟨⟨hj, hj2⟩, hu, hn⟩ := hq
  change 0 ≤ j at hj
  change j ≤ sp W l r at hj2
  change DrI W s0 u l (pr W l r + j) t at hu
  change nx W l (pr W l r + j) t at hn
  have hn1 := hn.1
  have hn12 := hn.2.1
  show ∃ t' s', qB_drawLine_75_b k48 (qB_drawLine_75 k48 k) (z + 300) (z + a) (J l) (J (len W l)) (J (Ps W l (pr W l r + j))) (J (pr W l r + j)) (J t) (J r) (J (wy W l r)) (J (sp W l r - j)) (hi z TD g w u) = k48 (z + 300) (z + a) (J l) (J (len W l)) (J (Ps W l (pr W l (r + 1)))) (J (pr W l (r + 1))) (J t') (J (r + 1)) (hi z TD g w s') ∧ DrI W s0 s' l (pr W l (r + 1)) t' ∧ nx W l (pr W l (r + 1)) t'
  unfold qB_drawLine_75_b
  by_cases hc : 0 < sp W l r - j
  · have hu1 := DrI_step (k := pr W l r + j) hl hgl (by omega) (by omega) hu
    have d1 := D_run hgl hr hr2 hj (by omega)
    have d2 := Ps_s hgl (k := pr W l r + j) (by omega) (by omega)
    rw [d1] at d2 hu1
    have a1 := Ps_in hgl (k := pr W l r + j + 1) (by omega) (by omega)
    have a0 := Ps_in hgl (k := pr W l r + j) (by omega) (by omega)
    have f1 := (hu.2.1 _ a1.1 a1.2).1
    have n1 := LOp_nn (W := W) (l := l) (k := pr W l r + j) (c := Ps W l (pr W l r + j + 1))
    have f2 : 0 ≤ u 302 (if wy W l r < 4 then Ps W l (pr W l r + j) else Ps W l (pr W l r + j + 1)) := by
      split
      · rw [(hu.2.1 _ a0.1 a0.2).2.1]; exact SPp_nn
      · rw [(hu.2.1 _ a1.1 a1.2).2.1]; exact SPp_nn
    have x1 := C_drawStep (w := w) (s := u) hg hl (v := wy W l r) ⟨b3, by omega⟩ a0 d2.symm a1 (by omega) f2
    generalize dsM u l (Ps W l (pr W l r + j + 1)) (wy W l r) (if wy W l r < 4 then Ps W l (pr W l r + j) else Ps W l (pr W l r + j + 1)) = u1 at x1 hu1
    have hv1 : LV u1 a W l := LV_fr hu1.1 ha2 hv
    have g2 := hv1.2.1
    simp (disch := first | assumption | omega) only [↓gR_D0, ↓gR_D1, ↓gR_D2, ↓gR_D3, ↓gR_D4, ↓gR_D5, ↓gR_D6, ↓gR_D7, ↓gR_D8, ↓gR_D9, ↓gR_D10, ↓gI_D11, ↓pV_D11, ↓isO_D, ↓gI_T0, ↓pV_T0, ↓gR_T1, ↓isO_T, ↓rd_T2, ↓wr_T2, ↓gI_U0, ↓pV_U0, ↓gR_U1, ↓isO_U, ↓rd_U2, ↓wr_U2, ↓gI_Ps0, ↓pV_Ps0, ↓gI_Ps1, ↓pV_Ps1, ↓gI_Ps2, ↓pV_Ps2, ↓gI_Ps3, ↓pV_Ps3, ↓gI_Ps4, ↓pV_Ps4, ↓isO_Ps, ↓gI_N0, ↓pV_N0, ↓gI_N1, ↓pV_N1, ↓gI_N2, ↓pV_N2, ↓gI_N3, ↓pV_N3, ↓gR_N4, ↓gR_N5, ↓isO_N, ↓rd_NL, ↓gI_NB0, ↓pV_NB0, ↓gR_NB1, ↓gR_NB2, ↓isO_NB, ↓rd_NC, ↓wr_NC, ↓ln_NC, ↓rd_NP, ↓wr_NP, ↓ln_NP, ↓gI_V0, ↓pV_V0, ↓gI_V1, ↓pV_V1, ↓gI_V2, ↓pV_V2, ↓gI_V3, ↓pV_V3, ↓gR_V4, ↓gR_V5, ↓isO_V, ↓rd_VL, ↓gI_VB0, ↓pV_VB0, ↓gR_VB1, ↓gR_VB2, ↓isO_VB, ↓rd_VC, ↓wr_VC, ↓ln_VC, ↓rd_VP, ↓wr_VP, ↓ln_VP, ↓rd_SL, ↓rd_KP, ↓wr_KP, ↓gI_H0, ↓pV_H0, ↓gI_H1, ↓pV_H1, ↓gR_H2, ↓isO_H, ↓rd_HP, ↓gI_B0, ↓pV_B0, ↓gI_B1, ↓pV_B1, ↓gR_B2, ↓gR_B3, ↓gR_B4, ↓gR_B5, ↓gR_B6, ↓gR_B7, ↓gR_B8, ↓isO_B, ↓rd_B301, ↓wr_B301, ↓ln_B301, ↓rd_B302, ↓wr_B302, ↓ln_B302, ↓rd_B303, ↓wr_B303, ↓ln_B303, ↓rd_B304, ↓wr_B304, ↓ln_B304, ↓rd_B305, ↓wr_B305, ↓ln_B305, ↓rd_B306, ↓wr_B306, ↓ln_B306, ↓rd_B307, ↓wr_B307, ↓ln_B307, ↓gR_Tv, ↓isO_Tv, ↓rd_Tv9, ↓wr_Tv9, ↓ln_Tv9, pV_D11, pV_T0, rd_T2, wr_T2, pV_U0, rd_U2, wr_U2, pV_Ps0, pV_Ps1, pV_Ps2, pV_Ps3, pV_Ps4, pV_N0, pV_N1, pV_N2, pV_N3, rd_NL, pV_NB0, rd_NC, wr_NC, rd_NP, wr_NP, pV_V0, pV_V1, pV_V2, pV_V3, rd_VL, pV_VB0, rd_VC, wr_VC, rd_VP, wr_VP, rd_SL, rd_KP, wr_KP, pV_H0, pV_H1, rd_HP, pV_B0, pV_B1, rd_B301, wr_B301, rd_B302, wr_B302, rd_B303, wr_B303, rd_B304, wr_B304, rd_B305, wr_B305, rd_B306, wr_B306, rd_B307, wr_B307, rd_Tv9, wr_Tv9, ↓isO_L, ↓gI_L0, ↓pV_L0, ↓gI_L1, ↓pV_L1, ↓gI_L2, ↓pV_L2, ↓gI_L3, ↓pV_L3, ↓gR_L4, ↓rd_L4, ↓wr_L4, ↓gR_L5, ↓rd_L5, ↓wr_L5, pV_L0, pV_L1, pV_L2, pV_L3, rd_L4, wr_L4, rd_L5, wr_L5, J_l, J_neg, J_add, J_sub, J_mul, J_lt, J_le, J_eq, J_div2, J_rem2, J_shl1, J_orp, J_or, J_and, J_shr, J_ushr, J_max, J_min, J_abs, J_b0, ↓b0_ite, ↓b0_ite2, b0_ite, bI_r, bV_r, b01_ite, rZ_b, K_l, J_long, M_in, if_pos, x1, g2]
    by_cases c1 : t < cT W l
    · have x2 := L_stepOfStation (z := z) (g := g) (w := w) ha hv1 hgl.1 (i := t) ⟨by have := hn.1; omega, by omega⟩
      have s1 := st_in hgl (k := t) (by have := hn.1; omega) c1
      have s2 := hn.2.2.2 c1
      rw [if_pos c1]
      simp (disch := first | assumption | omega) only [↓gR_D0, ↓gR_D1, ↓gR_D2, ↓gR_D3, ↓gR_D4, ↓gR_D5, ↓gR_D6, ↓gR_D7, ↓gR_D8, ↓gR_D9, ↓gR_D10, ↓gI_D11, ↓pV_D11, ↓isO_D, ↓gI_T0, ↓pV_T0, ↓gR_T1, ↓isO_T, ↓rd_T2, ↓wr_T2, ↓gI_U0, ↓pV_U0, ↓gR_U1, ↓isO_U, ↓rd_U2, ↓wr_U2, ↓gI_Ps0, ↓pV_Ps0, ↓gI_Ps1, ↓pV_Ps1, ↓gI_Ps2, ↓pV_Ps2, ↓gI_Ps3, ↓pV_Ps3, ↓gI_Ps4, ↓pV_Ps4, ↓isO_Ps, ↓gI_N0, ↓pV_N0, ↓gI_N1, ↓pV_N1, ↓gI_N2, ↓pV_N2, ↓gI_N3, ↓pV_N3, ↓gR_N4, ↓gR_N5, ↓isO_N, ↓rd_NL, ↓gI_NB0, ↓pV_NB0, ↓gR_NB1, ↓gR_NB2, ↓isO_NB, ↓rd_NC, ↓wr_NC, ↓ln_NC, ↓rd_NP, ↓wr_NP, ↓ln_NP, ↓gI_V0, ↓pV_V0, ↓gI_V1, ↓pV_V1, ↓gI_V2, ↓pV_V2, ↓gI_V3, ↓pV_V3, ↓gR_V4, ↓gR_V5, ↓isO_V, ↓rd_VL, ↓gI_VB0, ↓pV_VB0, ↓gR_VB1, ↓gR_VB2, ↓isO_VB, ↓rd_VC, ↓wr_VC, ↓ln_VC, ↓rd_VP, ↓wr_VP, ↓ln_VP, ↓rd_SL, ↓rd_KP, ↓wr_KP, ↓gI_H0, ↓pV_H0, ↓gI_H1, ↓pV_H1, ↓gR_H2, ↓isO_H, ↓rd_HP, ↓gI_B0, ↓pV_B0, ↓gI_B1, ↓pV_B1, ↓gR_B2, ↓gR_B3, ↓gR_B4, ↓gR_B5, ↓gR_B6, ↓gR_B7, ↓gR_B8, ↓isO_B, ↓rd_B301, ↓wr_B301, ↓ln_B301, ↓rd_B302, ↓wr_B302, ↓ln_B302, ↓rd_B303, ↓wr_B303, ↓ln_B303, ↓rd_B304, ↓wr_B304, ↓ln_B304, ↓rd_B305, ↓wr_B305, ↓ln_B305, ↓rd_B306, ↓wr_B306, ↓ln_B306, ↓rd_B307, ↓wr_B307, ↓ln_B307, ↓gR_Tv, ↓isO_Tv, ↓rd_Tv9, ↓wr_Tv9, ↓ln_Tv9, pV_D11, pV_T0, rd_T2, wr_T2, pV_U0, rd_U2, wr_U2, pV_Ps0, pV_Ps1, pV_Ps2, pV_Ps3, pV_Ps4, pV_N0, pV_N1, pV_N2, pV_N3, rd_NL, pV_NB0, rd_NC, wr_NC, rd_NP, wr_NP, pV_V0, pV_V1, pV_V2, pV_V3, rd_VL, pV_VB0, rd_VC, wr_VC, rd_VP, wr_VP, rd_SL, rd_KP, wr_KP, pV_H0, pV_H1, rd_HP, pV_B0, pV_B1, rd_B301, wr_B301, rd_B302, wr_B302, rd_B303, wr_B303, rd_B304, wr_B304, rd_B305, wr_B305, rd_B306, wr_B306, rd_B307, wr_B307, rd_Tv9, wr_Tv9, ↓isO_L, ↓gI_L0, ↓pV_L0, ↓gI_L1, ↓pV_L1, ↓gI_L2, ↓pV_L2, ↓gI_L3, ↓pV_L3, ↓gR_L4, ↓rd_L4, ↓wr_L4, ↓gR_L5, ↓rd_L5, ↓wr_L5, pV_L0, pV_L1, pV_L2, pV_L3, rd_L4, wr_L4, rd_L5, wr_L5, J_l, J_neg, J_add, J_sub, J_mul, J_lt, J_le, J_eq, J_div2, J_rem2, J_shl1, J_orp, J_or, J_and, J_shr, J_ushr, J_max, J_min, J_abs, J_b0, ↓b0_ite, ↓b0_ite2, b0_ite, bI_r, bV_r, b01_ite, rZ_b, K_l, J_long, M_in, if_pos, x2]
      by_cases c2 : st W l t = pr W l r + j + 1
      · have esc : sc W l t = Ps W l (pr W l r + j + 1) := by unfold sc; rw [c2]
        have f4 := (hu1.2.1 _ a1.1 a1.2).2.2.2.1
        have f5 := (hu1.2.1 _ a1.1 a1.2).2.2.2.2
        have n4 := SMp_nn (W := W) (l := l) (k := t) (c := Ps W l (pr W l r + j + 1))
        have n5 := ml_bd (W := W) (l := l) (t := t) (c := Ps W l (pr W l r + j + 1)) hgl.1 (by have := hn.1; omega)
        have n6 := LN_bd (W := W) (n := l) (c := Ps W l (pr W l r + j + 1)) hl.1 (fun i i1 i2 => (hG i i1 (by omega)).1)
        have x3 := C_drawStation (w := w) (g := g) (z := z) (s := u1) (c := Ps W l (pr W l r + j + 1)) ha ha2 hv1 hgl.1 hl (t := t) ⟨by have := hn.1; omega, by omega⟩ a1 (by omega) (by omega)
        have hu2 := DrI_stat hl hgl (by have := hn.1; omega) c1 hu1
        rw [esc] at hu2
        rw [if_pos c2]
        simp (disch := first | assumption | omega) only [↓gR_D0, ↓gR_D1, ↓gR_D2, ↓gR_D3, ↓gR_D4, ↓gR_D5, ↓gR_D6, ↓gR_D7, ↓gR_D8, ↓gR_D9, ↓gR_D10, ↓gI_D11, ↓pV_D11, ↓isO_D, ↓gI_T0, ↓pV_T0, ↓gR_T1, ↓isO_T, ↓rd_T2, ↓wr_T2, ↓gI_U0, ↓pV_U0, ↓gR_U1, ↓isO_U, ↓rd_U2, ↓wr_U2, ↓gI_Ps0, ↓pV_Ps0, ↓gI_Ps1, ↓pV_Ps1, ↓gI_Ps2, ↓pV_Ps2, ↓gI_Ps3, ↓pV_Ps3, ↓gI_Ps4, ↓pV_Ps4, ↓isO_Ps, ↓gI_N0, ↓pV_N0, ↓gI_N1, ↓pV_N1, ↓gI_N2, ↓pV_N2, ↓gI_N3, ↓pV_N3, ↓gR_N4, ↓gR_N5, ↓isO_N, ↓rd_NL, ↓gI_NB0, ↓pV_NB0, ↓gR_NB1, ↓gR_NB2, ↓isO_NB, ↓rd_NC, ↓wr_NC, ↓ln_NC, ↓rd_NP, ↓wr_NP, ↓ln_NP, ↓gI_V0, ↓pV_V0, ↓gI_V1, ↓pV_V1, ↓gI_V2, ↓pV_V2, ↓gI_V3, ↓pV_V3, ↓gR_V4, ↓gR_V5, ↓isO_V, ↓rd_VL, ↓gI_VB0, ↓pV_VB0, ↓gR_VB1, ↓gR_VB2, ↓isO_VB, ↓rd_VC, ↓wr_VC, ↓ln_VC, ↓rd_VP, ↓wr_VP, ↓ln_VP, ↓rd_SL, ↓rd_KP, ↓wr_KP, ↓gI_H0, ↓pV_H0, ↓gI_H1, ↓pV_H1, ↓gR_H2, ↓isO_H, ↓rd_HP, ↓gI_B0, ↓pV_B0, ↓gI_B1, ↓pV_B1, ↓gR_B2, ↓gR_B3, ↓gR_B4, ↓gR_B5, ↓gR_B6, ↓gR_B7, ↓gR_B8, ↓isO_B, ↓rd_B301, ↓wr_B301, ↓ln_B301, ↓rd_B302, ↓wr_B302, ↓ln_B302, ↓rd_B303, ↓wr_B303, ↓ln_B303, ↓rd_B304, ↓wr_B304, ↓ln_B304, ↓rd_B305, ↓wr_B305, ↓ln_B305, ↓rd_B306, ↓wr_B306, ↓ln_B306, ↓rd_B307, ↓wr_B307, ↓ln_B307, ↓gR_Tv, ↓isO_Tv, ↓rd_Tv9, ↓wr_Tv9, ↓ln_Tv9, pV_D11, pV_T0, rd_T2, wr_T2, pV_U0, rd_U2, wr_U2, pV_Ps0, pV_Ps1, pV_Ps2, pV_Ps3, pV_Ps4, pV_N0, pV_N1, pV_N2, pV_N3, rd_NL, pV_NB0, rd_NC, wr_NC, rd_NP, wr_NP, pV_V0, pV_V1, pV_V2, pV_V3, rd_VL, pV_VB0, rd_VC, wr_VC, rd_VP, wr_VP, rd_SL, rd_KP, wr_KP, pV_H0, pV_H1, rd_HP, pV_B0, pV_B1, rd_B301, wr_B301, rd_B302, wr_B302, rd_B303, wr_B303, rd_B304, wr_B304, rd_B305, wr_B305, rd_B306, wr_B306, rd_B307, wr_B307, rd_Tv9, wr_Tv9, ↓isO_L, ↓gI_L0, ↓pV_L0, ↓gI_L1, ↓pV_L1, ↓gI_L2, ↓pV_L2, ↓gI_L3, ↓pV_L3, ↓gR_L4, ↓rd_L4, ↓wr_L4, ↓gR_L5, ↓rd_L5, ↓wr_L5, pV_L0, pV_L1, pV_L2, pV_L3, rd_L4, wr_L4, rd_L5, wr_L5, J_l, J_neg, J_add, J_sub, J_mul, J_lt, J_le, J_eq, J_div2, J_rem2, J_shl1, J_orp, J_or, J_and, J_shr, J_ushr, J_max, J_min, J_abs, J_b0, ↓b0_ite, ↓b0_ite2, b0_ite, bI_r, bV_r, b01_ite, rZ_b, K_l, J_long, M_in, x3]
        have hn2 : nx W l (pr W l r + (j + 1)) (t + 1) := by
          refine ⟨by have := hn.1; omega, by omega, ?_, fun h5 => ?_⟩
          · rw [show t + 1 - 1 = t by omega]; omega
          · have := st_s hgl (k := t) (by have := hn.1; omega)
            omega
        have hnext := ih (j + 1, t + 1, _) ⟨⟨by show 0 ≤ j + 1; omega, by show j + 1 ≤ sp W l r; omega⟩, by show DrI W s0 _ l (pr W l r + (j + 1)) (t + 1); rw [← Int.add_assoc]; exact hu2, hn2⟩ (by show sp W l r - (j + 1) < sp W l r - j; omega)
        simp only [← Int.add_assoc] at hnext
        rw [show sp W l r - (j + 1) = sp W l r - j + -1 by omega] at hnext
        exact hnext
      · rw [if_neg c2]
        have hn2 : nx W l (pr W l r + (j + 1)) t := by
          refine ⟨hn.1, hn.2.1, by have := hn.2.2.1; omega, fun h5 => by omega⟩
        have hnext := ih (j + 1, t, u1) ⟨⟨by show 0 ≤ j + 1; omega, by show j + 1 ≤ sp W l r; omega⟩, by show DrI W s0 _ l (pr W l r + (j + 1)) t; rw [← Int.add_assoc]; exact hu1, hn2⟩ (by show sp W l r - (j + 1) < sp W l r - j; omega)
        simp only [← Int.add_assoc] at hnext
        rw [show sp W l r - (j + 1) = sp W l r - j + -1 by omega] at hnext
        exact hnext
    · rw [if_neg c1]
      have hn2 : nx W l (pr W l r + (j + 1)) t := by
        refine ⟨hn.1, hn.2.1, by have := hn.2.2.1; omega, fun h5 => by omega⟩
      have hnext := ih (j + 1, t, u1) ⟨⟨by show 0 ≤ j + 1; omega, by show j + 1 ≤ sp W l r; omega⟩, by show DrI W s0 _ l (pr W l r + (j + 1)) t; rw [← Int.add_assoc]; exact hu1, hn2⟩ (by show sp W l r - (j + 1) < sp W l r - j; omega)
      simp only [← Int.add_assoc] at hnext
      rw [show sp W l r - (j + 1) = sp W l r - j + -1 by omega] at hnext
      exact hnext
  · have e : j = sp W l r := by omega
    subst e
    simp (disch := omega) only [J_l, J_neg, J_add, J_sub, J_mul, J_lt, J_le, J_eq, J_div2, J_rem2, J_shl1, J_orp, J_or, J_and, J_shr, J_ushr, J_max, J_min, J_abs, J_b0, ↓b0_ite, ↓b0_ite2, b0_ite, bI_r, bV_r, b01_ite, rZ_b, K_l, J_long, M_in, if_neg]
    rw [← b7] at hu hn ⊢
    exact ⟨t, u, rfl, hu, hn⟩
end CD
