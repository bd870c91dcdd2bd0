/-! labels put and taken; all places labelled -/
section LP
variable {z y : Nat} {g : XH} {w : Int64} {s s0 m m0 : CT} {G W W' row row' lo lg sn r0 f f' : Int → Int} {wd hg c c' i j l n p v t k x a b : Int} {h : XH}
/-- the present plan's labels and the board, over lines G -/
def LabI (G : Int → Int) (wd hg n : Int) (W row : Int → Int) (s : CT) : Prop := GN (LO G n) (LN G n) (SN G n) wd hg W 1600 ∧ Own (LN G n) W row 1600 ∧ LbV s 8 W ∧ BdI G wd hg n row s
/-- the board's size, and lines that run -/
def Bsz (G : Int → Int) (wd hg n : Int) : Prop := (4 ≤ wd ∧ wd ≤ 40) ∧ (4 ≤ hg ∧ hg ≤ 40) ∧ (0 ≤ n ∧ n ≤ 8) ∧ ∀ l, 0 ≤ l → l < n → LG G l
theorem Bsz.lb (h : Bsz G wd hg n) : ∀ l, 0 ≤ l → l < n → LB G l := fun l a b => (h.2.2.2 l a b).1
theorem LabI.rs (hz : Bsz G wd hg n) (hI : LabI G wd hg n W row s) : RsI s := RsI_of hz.1 hz.2.1 hz.2.2.1.1 hz.2.2.2 hI.2.2.2 (fun i i1 i2 => (Own_bd hI.2.1 (by omega) i i1 i2).2)
theorem LabI.rk (hz : Bsz G wd hg n) (hI : LabI G wd hg n W row s) : rk W 1600 ≤ 160 := rk_160 hz.2.2.1 hz.2.2.2 hI.1
theorem LabI.f303 (hI : LabI G wd hg n W row s) (h1 : 0 ≤ c) (h2 : c < 1600) : s 303 c = SN G n c := (hI.2.2.2.2.1.1 c h1 h2).2.2.1
theorem LabI.f305 (hI : LabI G wd hg n W row s) (h1 : 0 ≤ c) (h2 : c < 1600) : s 305 c = LN G n c := (hI.2.2.2.2.1.1 c h1 h2).2.2.2.2
theorem LbV_fr (h : LbV s0 8 W) (h8 : s 8 = s0 8) (h9 : s 9 = s0 9) (h10 : s 10 = s0 10) : LbV s 8 W := by
  have x := LbV_at h
  show s 8 0 = rk W 1600 ∧ ∀ c, 0 ≤ c → c < 1600 → 0 ≤ lbl W c → s 9 (rk W c) = c ∧ s 10 (rk W c) = lbl W c
  rw [h8, h9, h10]
  exact x
theorem BdI_fr (h : BdI G wd hg n row s0) (hf : ∀ o, o ≠ 8 → o ≠ 9 → o ≠ 10 → o ≠ 306 → s o = s0 o) (hM : MkR (s 306) row') : BdI G wd hg n row' s := by
  refine ⟨by rw [hf 300 (by decide) (by decide) (by decide) (by decide)]; exact h.1, ⟨fun x x1 x2 => ?_, ?_⟩, hM⟩
  · rw [hf 301 (by decide) (by decide) (by decide) (by decide), hf 302 (by decide) (by decide) (by decide) (by decide), hf 303 (by decide) (by decide) (by decide) (by decide), hf 304 (by decide) (by decide) (by decide) (by decide), hf 305 (by decide) (by decide) (by decide) (by decide)]
    exact h.2.1.1 x x1 x2
  · rw [hf 307 (by decide) (by decide) (by decide) (by decide)]
    exact h.2.1.2
theorem C_positionOf2 (hz : Bsz G wd hg n) (hI : LabI G wd hg n W row s) (hc : 0 ≤ c ∧ c < 1600) : qLb_positionOf (z + 8) (J c) (hi z TD g w s) = rI (J (lbl W c)) (hi z TD g w s) := C_positionOf hI.2.2.1 (lblOk_G hI.1) (hI.rk hz) hc
theorem C_take0 (hz : Bsz G wd hg n) (hI : LabI G wd hg n W row s) (hc : 0 ≤ c ∧ c < 1600) (hl : lbl W c < 0) : qD_takeLabel z (J c) (hi z TD g w s) = rV (hi z TD g w s) := by
  have hb := (lblOk_G hI.1) c hc.1 hc.2
  unfold qD_takeLabel
  simp (disch := omega) only [↓gR_D0, ↓gR_D1, ↓gR_D2, ↓gR_D3, ↓gR_D4, ↓gR_D5, ↓gR_D6, ↓gR_D7, ↓gR_D8, ↓gR_D9, ↓gR_D10, ↓gI_D11, ↓pV_D11, ↓isO_D, ↓gI_T0, ↓pV_T0, ↓gR_T1, ↓isO_T, ↓rd_T2, ↓wr_T2, ↓gI_U0, ↓pV_U0, ↓gR_U1, ↓isO_U, ↓rd_U2, ↓wr_U2, ↓gI_Ps0, ↓pV_Ps0, ↓gI_Ps1, ↓pV_Ps1, ↓gI_Ps2, ↓pV_Ps2, ↓gI_Ps3, ↓pV_Ps3, ↓gI_Ps4, ↓pV_Ps4, ↓isO_Ps, ↓gI_N0, ↓pV_N0, ↓gI_N1, ↓pV_N1, ↓gI_N2, ↓pV_N2, ↓gI_N3, ↓pV_N3, ↓gR_N4, ↓gR_N5, ↓isO_N, ↓rd_NL, ↓gI_NB0, ↓pV_NB0, ↓gR_NB1, ↓gR_NB2, ↓isO_NB, ↓rd_NC, ↓wr_NC, ↓ln_NC, ↓rd_NP, ↓wr_NP, ↓ln_NP, ↓gI_V0, ↓pV_V0, ↓gI_V1, ↓pV_V1, ↓gI_V2, ↓pV_V2, ↓gI_V3, ↓pV_V3, ↓gR_V4, ↓gR_V5, ↓isO_V, ↓rd_VL, ↓gI_VB0, ↓pV_VB0, ↓gR_VB1, ↓gR_VB2, ↓isO_VB, ↓rd_VC, ↓wr_VC, ↓ln_VC, ↓rd_VP, ↓wr_VP, ↓ln_VP, ↓rd_SL, ↓rd_KP, ↓wr_KP, ↓gI_H0, ↓pV_H0, ↓gI_H1, ↓pV_H1, ↓gR_H2, ↓isO_H, ↓rd_HP, ↓gI_B0, ↓pV_B0, ↓gI_B1, ↓pV_B1, ↓gR_B2, ↓gR_B3, ↓gR_B4, ↓gR_B5, ↓gR_B6, ↓gR_B7, ↓gR_B8, ↓isO_B, ↓rd_B301, ↓wr_B301, ↓ln_B301, ↓rd_B302, ↓wr_B302, ↓ln_B302, ↓rd_B303, ↓wr_B303, ↓ln_B303, ↓rd_B304, ↓wr_B304, ↓ln_B304, ↓rd_B305, ↓wr_B305, ↓ln_B305, ↓rd_B306, ↓wr_B306, ↓ln_B306, ↓rd_B307, ↓wr_B307, ↓ln_B307, ↓gR_Tv, ↓isO_Tv, ↓rd_Tv9, ↓wr_Tv9, ↓ln_Tv9, pV_D11, pV_T0, rd_T2, wr_T2, pV_U0, rd_U2, wr_U2, pV_Ps0, pV_Ps1, pV_Ps2, pV_Ps3, pV_Ps4, pV_N0, pV_N1, pV_N2, pV_N3, rd_NL, pV_NB0, rd_NC, wr_NC, rd_NP, wr_NP, pV_V0, pV_V1, pV_V2, pV_V3, rd_VL, pV_VB0, rd_VC, wr_VC, rd_VP, wr_VP, rd_SL, rd_KP, wr_KP, pV_H0, pV_H1, rd_HP, pV_B0, pV_B1, rd_B301, wr_B301, rd_B302, wr_B302, rd_B303, wr_B303, rd_B304, wr_B304, rd_B305, wr_B305, rd_B306, wr_B306, rd_B307, wr_B307, rd_Tv9, wr_Tv9, J_l, J_neg, J_add, J_sub, J_mul, J_lt, J_le, J_eq, J_div2, J_rem2, J_shl1, J_orp, J_or, J_and, J_shr, J_ushr, J_max, J_min, J_abs, J_b0, ↓b0_ite, ↓b0_ite2, b0_ite, bI_r, bV_r, b01_ite, ite_true, ite_false, rZ_b, K_l, J_long, M_in, C_positionOf2 hz hI hc, if_pos]
theorem C_take1 (hz : Bsz G wd hg n) (hI : LabI G wd hg n W row s) (hc : 0 ≤ c ∧ c < 1600) (hl : 0 ≤ lbl W c) : ∃ s', qD_takeLabel z (J c) (hi z TD g w s) = rV (hi z TD g w s') ∧ (∀ o, o ≠ 8 → o ≠ 9 → o ≠ 10 → o ≠ 306 → s' o = s o) ∧ LabI G wd hg n (ru W (184 + c) (-2)) (pnt row (fr c (lbl W c) (LN G n c)) (LN G n c) (-2)) s' := by
  have hb := hI.1 c hc.1 hc.2
  have hpl : 0 < SN G n c ∧ lbl W c < 8 ∧ ¬offP wd hg c (lbl W c) (LN G n c) := by
    rcases hb with e | ⟨_, e1, e2, e3, _⟩
    · omega
    · exact ⟨e2, e1, e3⟩
  have hLc := LN_pos (c := c) hz.lb hz.2.2.1.1 hpl.1
  obtain ⟨s1, x1, x2, x3⟩ := C_drop (z := z) (g := g) (w := w) hI.2.2.1 (hI.rk hz) hc hl
  have f305 : s1 305 = s 305 := x2 305 (by decide) (by decide) (by decide)
  have f300 : s1 300 = s 300 := x2 300 (by decide) (by decide) (by decide)
  have f306 : s1 306 = s 306 := x2 306 (by decide) (by decide) (by decide)
  have g305 := hI.f305 hc.1 hc.2
  have hR : RsI s1 := by
    have := hI.rs hz
    unfold RsI at *
    rw [f305, f300, f306, x2 301 (by decide) (by decide) (by decide)]
    exact this
  have x4 := C_paint (z := z) (g := g) (w := w) (s := s1) (c := c) (p := lbl W c) (v := 0) hc ⟨hl, hpl.2.1⟩ hR (by rw [f305, g305]; exact hLc.1) (by rw [f305, g305, f300, hI.2.2.2.1.1, hI.2.2.2.1.2]; exact hpl.2.2)
  rw [f305, g305, f306] at x4
  unfold qD_takeLabel
  simp (disch := omega) only [↓gR_D0, ↓gR_D1, ↓gR_D2, ↓gR_D3, ↓gR_D4, ↓gR_D5, ↓gR_D6, ↓gR_D7, ↓gR_D8, ↓gR_D9, ↓gR_D10, ↓gI_D11, ↓pV_D11, ↓isO_D, ↓gI_T0, ↓pV_T0, ↓gR_T1, ↓isO_T, ↓rd_T2, ↓wr_T2, ↓gI_U0, ↓pV_U0, ↓gR_U1, ↓isO_U, ↓rd_U2, ↓wr_U2, ↓gI_Ps0, ↓pV_Ps0, ↓gI_Ps1, ↓pV_Ps1, ↓gI_Ps2, ↓pV_Ps2, ↓gI_Ps3, ↓pV_Ps3, ↓gI_Ps4, ↓pV_Ps4, ↓isO_Ps, ↓gI_N0, ↓pV_N0, ↓gI_N1, ↓pV_N1, ↓gI_N2, ↓pV_N2, ↓gI_N3, ↓pV_N3, ↓gR_N4, ↓gR_N5, ↓isO_N, ↓rd_NL, ↓gI_NB0, ↓pV_NB0, ↓gR_NB1, ↓gR_NB2, ↓isO_NB, ↓rd_NC, ↓wr_NC, ↓ln_NC, ↓rd_NP, ↓wr_NP, ↓ln_NP, ↓gI_V0, ↓pV_V0, ↓gI_V1, ↓pV_V1, ↓gI_V2, ↓pV_V2, ↓gI_V3, ↓pV_V3, ↓gR_V4, ↓gR_V5, ↓isO_V, ↓rd_VL, ↓gI_VB0, ↓pV_VB0, ↓gR_VB1, ↓gR_VB2, ↓isO_VB, ↓rd_VC, ↓wr_VC, ↓ln_VC, ↓rd_VP, ↓wr_VP, ↓ln_VP, ↓rd_SL, ↓rd_KP, ↓wr_KP, ↓gI_H0, ↓pV_H0, ↓gI_H1, ↓pV_H1, ↓gR_H2, ↓isO_H, ↓rd_HP, ↓gI_B0, ↓pV_B0, ↓gI_B1, ↓pV_B1, ↓gR_B2, ↓gR_B3, ↓gR_B4, ↓gR_B5, ↓gR_B6, ↓gR_B7, ↓gR_B8, ↓isO_B, ↓rd_B301, ↓wr_B301, ↓ln_B301, ↓rd_B302, ↓wr_B302, ↓ln_B302, ↓rd_B303, ↓wr_B303, ↓ln_B303, ↓rd_B304, ↓wr_B304, ↓ln_B304, ↓rd_B305, ↓wr_B305, ↓ln_B305, ↓rd_B306, ↓wr_B306, ↓ln_B306, ↓rd_B307, ↓wr_B307, ↓ln_B307, ↓gR_Tv, ↓isO_Tv, ↓rd_Tv9, ↓wr_Tv9, ↓ln_Tv9, pV_D11, pV_T0, rd_T2, wr_T2, pV_U0, rd_U2, wr_U2, pV_Ps0, pV_Ps1, pV_Ps2, pV_Ps3, pV_Ps4, pV_N0, pV_N1, pV_N2, pV_N3, rd_NL, pV_NB0, rd_NC, wr_NC, rd_NP, wr_NP, pV_V0, pV_V1, pV_V2, pV_V3, rd_VL, pV_VB0, rd_VC, wr_VC, rd_VP, wr_VP, rd_SL, rd_KP, wr_KP, pV_H0, pV_H1, rd_HP, pV_B0, pV_B1, rd_B301, wr_B301, rd_B302, wr_B302, rd_B303, wr_B303, rd_B304, wr_B304, rd_B305, wr_B305, rd_B306, wr_B306, rd_B307, wr_B307, rd_Tv9, wr_Tv9, J_l, J_neg, J_add, J_sub, J_mul, J_lt, J_le, J_eq, J_div2, J_rem2, J_shl1, J_orp, J_or, J_and, J_shr, J_ushr, J_max, J_min, J_abs, J_b0, ↓b0_ite, ↓b0_ite2, b0_ite, bI_r, bV_r, b01_ite, ite_true, ite_false, rZ_b, K_l, J_long, M_in, C_positionOf2 hz hI hc, if_neg, x1, x4]
  refine ⟨_, rfl, fun o o1 o2 o3 o4 => by rw [rs_ne o4, x2 o o1 o2 o3], GN_take hc.1 hI.1, Own_take hc hI.2.1 hl, LbV_fr x3 (rs_ne (by decide)) (rs_ne (by decide)) (rs_ne (by decide)), BdI_fr hI.2.2.2 (fun o o1 o2 o3 o4 => by rw [rs_ne o4, x2 o o1 o2 o3]) ?_⟩
  rw [rs_same]
  exact MkR_pnt0 hI.2.2.2.2.2
theorem ru_ru : ru (ru W j a) j b = ru W j b := funext fun i => by
  unfold ru
  split <;> rfl
/-- a label is put where there is none -/
theorem C_put0 (hz : Bsz G wd hg n) (hI : LabI G wd hg n W row s) (hc : 0 ≤ c ∧ c < 1600) (hl : lbl W c < 0) (hp : 0 ≤ p ∧ p < 8) (hpl : 0 < SN G n c) (hw : whyP (LO G n) (LN G n) row wd hg c p = 0) : ∃ s', qD_putLabel z (J c) (J p) (hi z TD g w s) = rV (hi z TD g w s') ∧ (∀ o, o ≠ 8 → o ≠ 9 → o ≠ 10 → o ≠ 306 → s' o = s o) ∧ LabI G wd hg n (ru W (184 + c) p) (pnt row (fr c p (LN G n c)) (LN G n c) c) s' := by
  have hfr := why_free hw
  have hLc := LN_pos (c := c) hz.lb hz.2.2.1.1 hpl
  have hG' := GN_put hc.1 hI.1 hp hpl hfr.1 hfr.2.1
  have hk : rk W 1600 < 160 := by
    have := rk_160 (W' := ru W (184 + c) p) hz.2.2.1 hz.2.2.2 hG'
    rw [rk_put hc.1 hl hp.1 1600 (by omega), if_pos (by omega)] at this
    omega
  obtain ⟨s1, x1, x2, x3⟩ := C_put (z := z) (g := g) (w := w) hI.2.2.1 hk hc hl hp.1
  have f305 : s1 305 = s 305 := x2 305 (by decide) (by decide) (by decide)
  have f300 : s1 300 = s 300 := x2 300 (by decide) (by decide) (by decide)
  have f306 : s1 306 = s 306 := x2 306 (by decide) (by decide) (by decide)
  have g305 := hI.f305 hc.1 hc.2
  have hR : RsI s1 := by
    have := hI.rs hz
    unfold RsI at *
    rw [f305, f300, f306, x2 301 (by decide) (by decide) (by decide)]
    exact this
  have x4 := C_paint (z := z) (g := g) (w := w) (s := s1) (c := c) (p := p) (v := c + 1) hc hp hR (by rw [f305, g305]; exact hLc.1) (by rw [f305, g305, f300, hI.2.2.2.1.1, hI.2.2.2.1.2]; exact hfr.1)
  rw [f305, g305, f306] at x4
  unfold qD_putLabel
  simp (disch := omega) only [↓gR_D0, ↓gR_D1, ↓gR_D2, ↓gR_D3, ↓gR_D4, ↓gR_D5, ↓gR_D6, ↓gR_D7, ↓gR_D8, ↓gR_D9, ↓gR_D10, ↓gI_D11, ↓pV_D11, ↓isO_D, ↓gI_T0, ↓pV_T0, ↓gR_T1, ↓isO_T, ↓rd_T2, ↓wr_T2, ↓gI_U0, ↓pV_U0, ↓gR_U1, ↓isO_U, ↓rd_U2, ↓wr_U2, ↓gI_Ps0, ↓pV_Ps0, ↓gI_Ps1, ↓pV_Ps1, ↓gI_Ps2, ↓pV_Ps2, ↓gI_Ps3, ↓pV_Ps3, ↓gI_Ps4, ↓pV_Ps4, ↓isO_Ps, ↓gI_N0, ↓pV_N0, ↓gI_N1, ↓pV_N1, ↓gI_N2, ↓pV_N2, ↓gI_N3, ↓pV_N3, ↓gR_N4, ↓gR_N5, ↓isO_N, ↓rd_NL, ↓gI_NB0, ↓pV_NB0, ↓gR_NB1, ↓gR_NB2, ↓isO_NB, ↓rd_NC, ↓wr_NC, ↓ln_NC, ↓rd_NP, ↓wr_NP, ↓ln_NP, ↓gI_V0, ↓pV_V0, ↓gI_V1, ↓pV_V1, ↓gI_V2, ↓pV_V2, ↓gI_V3, ↓pV_V3, ↓gR_V4, ↓gR_V5, ↓isO_V, ↓rd_VL, ↓gI_VB0, ↓pV_VB0, ↓gR_VB1, ↓gR_VB2, ↓isO_VB, ↓rd_VC, ↓wr_VC, ↓ln_VC, ↓rd_VP, ↓wr_VP, ↓ln_VP, ↓rd_SL, ↓rd_KP, ↓wr_KP, ↓gI_H0, ↓pV_H0, ↓gI_H1, ↓pV_H1, ↓gR_H2, ↓isO_H, ↓rd_HP, ↓gI_B0, ↓pV_B0, ↓gI_B1, ↓pV_B1, ↓gR_B2, ↓gR_B3, ↓gR_B4, ↓gR_B5, ↓gR_B6, ↓gR_B7, ↓gR_B8, ↓isO_B, ↓rd_B301, ↓wr_B301, ↓ln_B301, ↓rd_B302, ↓wr_B302, ↓ln_B302, ↓rd_B303, ↓wr_B303, ↓ln_B303, ↓rd_B304, ↓wr_B304, ↓ln_B304, ↓rd_B305, ↓wr_B305, ↓ln_B305, ↓rd_B306, ↓wr_B306, ↓ln_B306, ↓rd_B307, ↓wr_B307, ↓ln_B307, ↓gR_Tv, ↓isO_Tv, ↓rd_Tv9, ↓wr_Tv9, ↓ln_Tv9, pV_D11, pV_T0, rd_T2, wr_T2, pV_U0, rd_U2, wr_U2, pV_Ps0, pV_Ps1, pV_Ps2, pV_Ps3, pV_Ps4, pV_N0, pV_N1, pV_N2, pV_N3, rd_NL, pV_NB0, rd_NC, wr_NC, rd_NP, wr_NP, pV_V0, pV_V1, pV_V2, pV_V3, rd_VL, pV_VB0, rd_VC, wr_VC, rd_VP, wr_VP, rd_SL, rd_KP, wr_KP, pV_H0, pV_H1, rd_HP, pV_B0, pV_B1, rd_B301, wr_B301, rd_B302, wr_B302, rd_B303, wr_B303, rd_B304, wr_B304, rd_B305, wr_B305, rd_B306, wr_B306, rd_B307, wr_B307, rd_Tv9, wr_Tv9, J_l, J_neg, J_add, J_sub, J_mul, J_lt, J_le, J_eq, J_div2, J_rem2, J_shl1, J_orp, J_or, J_and, J_shr, J_ushr, J_max, J_min, J_abs, J_b0, ↓b0_ite, ↓b0_ite2, b0_ite, bI_r, bV_r, b01_ite, ite_true, ite_false, rZ_b, K_l, J_long, M_in, C_take0 hz hI hc hl, x1, x4]
  refine ⟨_, rfl, fun o o1 o2 o3 o4 => by rw [rs_ne o4, x2 o o1 o2 o3], hG', Own_put hc hI.2.1 hl hp.1 hfr.2.2, LbV_fr x3 (rs_ne (by decide)) (rs_ne (by decide)) (rs_ne (by decide)), BdI_fr hI.2.2.2 (fun o o1 o2 o3 o4 => by rw [rs_ne o4, x2 o o1 o2 o3]) ?_⟩
  rw [rs_same]
  exact MkR_pnt hI.2.2.2.2.2 hc.1
theorem why_pnt (hw : whyP lo lg row wd hg c p = 0) : whyP lo lg (pnt row x k (-2)) wd hg c p = 0 := by
  have hf := why_free hw
  refine why_0 hf.1 hf.2.1 ?_
  rintro ⟨i, i1, i2, i3, i4⟩
  unfold pnt at i3 i4
  by_cases e : x ≤ i ∧ i < x + k
  · rw [if_pos e] at i3; omega
  · rw [if_neg e] at i3 i4
    exact hf.2.2 ⟨i, i1, i2, i3, i4⟩
/-- a label is put, perhaps in place of another of the same place -/
theorem C_putL (hz : Bsz G wd hg n) (hI : LabI G wd hg n W row s) (hc : 0 ≤ c ∧ c < 1600) (hp : 0 ≤ p ∧ p < 8) (hpl : 0 < SN G n c) (hw : whyP (LO G n) (LN G n) row wd hg c p = 0) : ∃ s' row', qD_putLabel z (J c) (J p) (hi z TD g w s) = rV (hi z TD g w s') ∧ (∀ o, o ≠ 8 → o ≠ 9 → o ≠ 10 → o ≠ 306 → s' o = s o) ∧ LabI G wd hg n (ru W (184 + c) p) row' s' := by
  by_cases hl : lbl W c < 0
  · obtain ⟨s', a1, a2, a3⟩ := C_put0 (z := z) (g := g) (w := w) hz hI hc hl hp hpl hw
    exact ⟨s', _, a1, a2, a3⟩
  · obtain ⟨s1, a1, a2, a3⟩ := C_take1 (z := z) (g := g) (w := w) hz hI hc (by omega)
    have hl1 : lbl (ru W (184 + c) (-2)) c < 0 := by
      rw [lbl_ru hc.1 hc.1, if_pos rfl]; omega
    obtain ⟨s', b1, b2, b3⟩ := C_put0 (z := z) (g := g) (w := w) hz a3 hc hl1 hp hpl (why_pnt hw)
    have e0 := C_take0 (z := z) (g := g) (w := w) hz a3 hc hl1
    refine ⟨s', _, ?_, fun o o1 o2 o3 o4 => by rw [b2 o o1 o2 o3 o4, a2 o o1 o2 o3 o4], by rw [ru_ru] at b3; exact b3⟩
    rw [← b1]
    unfold qD_putLabel
    simp (disch := omega) only [↓gR_D0, ↓gR_D1, ↓gR_D2, ↓gR_D3, ↓gR_D4, ↓gR_D5, ↓gR_D6, ↓gR_D7, ↓gR_D8, ↓gR_D9, ↓gR_D10, ↓gI_D11, ↓pV_D11, ↓isO_D, ↓gI_T0, ↓pV_T0, ↓gR_T1, ↓isO_T, ↓rd_T2, ↓wr_T2, ↓gI_U0, ↓pV_U0, ↓gR_U1, ↓isO_U, ↓rd_U2, ↓wr_U2, ↓gI_Ps0, ↓pV_Ps0, ↓gI_Ps1, ↓pV_Ps1, ↓gI_Ps2, ↓pV_Ps2, ↓gI_Ps3, ↓pV_Ps3, ↓gI_Ps4, ↓pV_Ps4, ↓isO_Ps, ↓gI_N0, ↓pV_N0, ↓gI_N1, ↓pV_N1, ↓gI_N2, ↓pV_N2, ↓gI_N3, ↓pV_N3, ↓gR_N4, ↓gR_N5, ↓isO_N, ↓rd_NL, ↓gI_NB0, ↓pV_NB0, ↓gR_NB1, ↓gR_NB2, ↓isO_NB, ↓rd_NC, ↓wr_NC, ↓ln_NC, ↓rd_NP, ↓wr_NP, ↓ln_NP, ↓gI_V0, ↓pV_V0, ↓gI_V1, ↓pV_V1, ↓gI_V2, ↓pV_V2, ↓gI_V3, ↓pV_V3, ↓gR_V4, ↓gR_V5, ↓isO_V, ↓rd_VL, ↓gI_VB0, ↓pV_VB0, ↓gR_VB1, ↓gR_VB2, ↓isO_VB, ↓rd_VC, ↓wr_VC, ↓ln_VC, ↓rd_VP, ↓wr_VP, ↓ln_VP, ↓rd_SL, ↓rd_KP, ↓wr_KP, ↓gI_H0, ↓pV_H0, ↓gI_H1, ↓pV_H1, ↓gR_H2, ↓isO_H, ↓rd_HP, ↓gI_B0, ↓pV_B0, ↓gI_B1, ↓pV_B1, ↓gR_B2, ↓gR_B3, ↓gR_B4, ↓gR_B5, ↓gR_B6, ↓gR_B7, ↓gR_B8, ↓isO_B, ↓rd_B301, ↓wr_B301, ↓ln_B301, ↓rd_B302, ↓wr_B302, ↓ln_B302, ↓rd_B303, ↓wr_B303, ↓ln_B303, ↓rd_B304, ↓wr_B304, ↓ln_B304, ↓rd_B305, ↓wr_B305, ↓ln_B305, ↓rd_B306, ↓wr_B306, ↓ln_B306, ↓rd_B307, ↓wr_B307, ↓ln_B307, ↓gR_Tv, ↓isO_Tv, ↓rd_Tv9, ↓wr_Tv9, ↓ln_Tv9, pV_D11, pV_T0, rd_T2, wr_T2, pV_U0, rd_U2, wr_U2, pV_Ps0, pV_Ps1, pV_Ps2, pV_Ps3, pV_Ps4, pV_N0, pV_N1, pV_N2, pV_N3, rd_NL, pV_NB0, rd_NC, wr_NC, rd_NP, wr_NP, pV_V0, pV_V1, pV_V2, pV_V3, rd_VL, pV_VB0, rd_VC, wr_VC, rd_VP, wr_VP, rd_SL, rd_KP, wr_KP, pV_H0, pV_H1, rd_HP, pV_B0, pV_B1, rd_B301, wr_B301, rd_B302, wr_B302, rd_B303, wr_B303, rd_B304, wr_B304, rd_B305, wr_B305, rd_B306, wr_B306, rd_B307, wr_B307, rd_Tv9, wr_Tv9, J_l, J_neg, J_add, J_sub, J_mul, J_lt, J_le, J_eq, J_div2, J_rem2, J_shl1, J_orp, J_or, J_and, J_shr, J_ushr, J_max, J_min, J_abs, J_b0, ↓b0_ite, ↓b0_ite2, b0_ite, bI_r, bV_r, b01_ite, ite_true, ite_false, rZ_b, K_l, J_long, M_in, a1, e0]
/-! all places -/
noncomputable def laN (lo lg sn : Int → Int) (wd hg : Int) (W r0 : Int → Int) : Nat → (Int → Int) × (Int → Int) × Int
  | 0 => (W, r0, 0)
  | n + 1 => if 0 < sn n ∧ lbl (laN lo lg sn wd hg W r0 n).1 n < 0 ∧ 0 ≤ ff (whyP lo lg (laN lo lg sn wd hg W r0 n).2.1 wd hg n) then (ru (laN lo lg sn wd hg W r0 n).1 (184 + n) (ff (whyP lo lg (laN lo lg sn wd hg W r0 n).2.1 wd hg n)), pnt (laN lo lg sn wd hg W r0 n).2.1 (fr n (ff (whyP lo lg (laN lo lg sn wd hg W r0 n).2.1 wd hg n)) (lg n)) (lg n) n, (laN lo lg sn wd hg W r0 n).2.2 + 1) else laN lo lg sn wd hg W r0 n
noncomputable def la (lo lg sn : Int → Int) (wd hg : Int) (W r0 : Int → Int) (n : Int) : (Int → Int) × (Int → Int) × Int := laN lo lg sn wd hg W r0 n.toNat
theorem la_0 : la lo lg sn wd hg W r0 0 = (W, r0, 0) := rfl
theorem la_s (h : 0 ≤ n) : la lo lg sn wd hg W r0 (n + 1) = if 0 < sn n ∧ lbl (la lo lg sn wd hg W r0 n).1 n < 0 ∧ 0 ≤ ff (whyP lo lg (la lo lg sn wd hg W r0 n).2.1 wd hg n) then (ru (la lo lg sn wd hg W r0 n).1 (184 + n) (ff (whyP lo lg (la lo lg sn wd hg W r0 n).2.1 wd hg n)), pnt (la lo lg sn wd hg W r0 n).2.1 (fr n (ff (whyP lo lg (la lo lg sn wd hg W r0 n).2.1 wd hg n)) (lg n)) (lg n) n, (la lo lg sn wd hg W r0 n).2.2 + 1) else la lo lg sn wd hg W r0 n := by
  unfold la
  rw [show (n + 1).toNat = n.toNat + 1 by omega]
  have e : ((n.toNat : Nat) : Int) = n := by omega
  show (if 0 < sn (n.toNat : Int) ∧ _ then _ else _) = _
  rw [e]
theorem ff_free {f : Int → Int} (h : 0 ≤ ff f) : (0 ≤ ff f ∧ ff f < 8) ∧ f (ff f) = 0 := by
  rcases ff_sp (f := f) with ⟨p, h1, h2, h3, h4, _⟩ | ⟨h1, _⟩
  · rw [h3]; exact ⟨⟨h1, h2⟩, h4⟩
  · omega
theorem la_inv (hG : GN lo lg sn wd hg W 1600) (hO : Own lg W r0 1600) : ∀ n, 0 ≤ n → n ≤ 1600 → GN lo lg sn wd hg (la lo lg sn wd hg W r0 n).1 1600 ∧ Own lg (la lo lg sn wd hg W r0 n).1 (la lo lg sn wd hg W r0 n).2.1 1600 ∧ (∀ j, j < 184 ∨ 184 + n ≤ j → (la lo lg sn wd hg W r0 n).1 j = W j) ∧ 0 ≤ (la lo lg sn wd hg W r0 n).2.2 ∧ (la lo lg sn wd hg W r0 n).2.2 ≤ n := by
  refine int_ind_le ⟨hG, hO, fun j _ => rfl, by rw [la_0]; show (0 : Int) ≤ 0; omega, by rw [la_0]; show (0 : Int) ≤ 0; omega⟩ (fun n h1 h2 ih => ?_)
  rw [la_s h1]
  generalize la lo lg sn wd hg W r0 n = q at ih ⊢
  obtain ⟨w, r, k⟩ := q
  obtain ⟨i1, i2, i3, i4, i5⟩ := ih
  change GN lo lg sn wd hg w 1600 at i1
  change Own lg w r 1600 at i2
  change ∀ j, j < 184 ∨ 184 + n ≤ j → w j = W j at i3
  change 0 ≤ k at i4
  change k ≤ n at i5
  by_cases hc : 0 < sn n ∧ lbl w n < 0 ∧ 0 ≤ ff (whyP lo lg r wd hg n)
  · rw [if_pos hc]
    have hf := ff_free hc.2.2
    have hfr := why_free hf.2
    refine ⟨GN_put h1 i1 hf.1 hc.1 hfr.1 hfr.2.1, Own_put ⟨h1, h2⟩ i2 hc.2.1 hf.1.1 hfr.2.2, fun j hj => ?_, ?_, ?_⟩
    · show ru w (184 + n) _ j = W j
      rw [ru_ne (by omega)]
      exact i3 j (by omega)
    · show 0 ≤ k + 1; omega
    · show k + 1 ≤ n + 1; omega
  · rw [if_neg hc]
    refine ⟨i1, i2, fun j hj => i3 j (by omega), i4, by show k ≤ n + 1; omega⟩
/-- rows that agree on the board give the same labels -/
theorem la_congr (hw : 4 ≤ wd ∧ wd ≤ 40) (hh : 4 ≤ hg ∧ hg ≤ 40) (hr : ∀ i, 0 ≤ i → i < 1600 → r0 i = row i) : ∀ n, 0 ≤ n → n ≤ 1600 → (la lo lg sn wd hg W r0 n).1 = (la lo lg sn wd hg W row n).1 ∧ (la lo lg sn wd hg W r0 n).2.2 = (la lo lg sn wd hg W row n).2.2 ∧ ∀ i, 0 ≤ i → i < 1600 → (la lo lg sn wd hg W r0 n).2.1 i = (la lo lg sn wd hg W row n).2.1 i := by
  refine int_ind_le ⟨rfl, rfl, hr⟩ (fun n h1 h2 ih => ?_)
  rw [la_s h1, la_s h1]
  generalize la lo lg sn wd hg W r0 n = q at ih ⊢
  generalize la lo lg sn wd hg W row n = q' at ih ⊢
  obtain ⟨w, r, k⟩ := q
  obtain ⟨w', r', k'⟩ := q'
  obtain ⟨i1, i2, i3⟩ := ih
  change w = w' at i1
  change k = k' at i2
  change ∀ i, 0 ≤ i → i < 1600 → r i = r' i at i3
  subst i1
  subst i2
  have e : ff (whyP lo lg r wd hg n) = ff (whyP lo lg r' wd hg n) := ff_congr fun p _ _ => why_congr ⟨h1, h2⟩ hw hh (fun _ _ _ => Iff.rfl) rfl (fun i i1 i2 => by unfold oth; rw [i3 i i1 i2])
  show (if 0 < sn n ∧ lbl w n < 0 ∧ 0 ≤ ff (whyP lo lg r wd hg n) then _ else _ : (Int → Int) × (Int → Int) × Int).1 = (if 0 < sn n ∧ lbl w n < 0 ∧ 0 ≤ ff (whyP lo lg r' wd hg n) then _ else _ : (Int → Int) × (Int → Int) × Int).1 ∧ (if 0 < sn n ∧ lbl w n < 0 ∧ 0 ≤ ff (whyP lo lg r wd hg n) then _ else _ : (Int → Int) × (Int → Int) × Int).2.2 = (if 0 < sn n ∧ lbl w n < 0 ∧ 0 ≤ ff (whyP lo lg r' wd hg n) then _ else _ : (Int → Int) × (Int → Int) × Int).2.2 ∧ ∀ i, 0 ≤ i → i < 1600 → (if 0 < sn n ∧ lbl w n < 0 ∧ 0 ≤ ff (whyP lo lg r wd hg n) then _ else _ : (Int → Int) × (Int → Int) × Int).2.1 i = (if 0 < sn n ∧ lbl w n < 0 ∧ 0 ≤ ff (whyP lo lg r' wd hg n) then _ else _ : (Int → Int) × (Int → Int) × Int).2.1 i
  rw [e]
  by_cases hc : 0 < sn n ∧ lbl w n < 0 ∧ 0 ≤ ff (whyP lo lg r' wd hg n)
  · rw [if_pos hc, if_pos hc]
    refine ⟨rfl, rfl, fun i i1 i2 => ?_⟩
    show pnt r (fr n (ff (whyP lo lg r' wd hg n)) (lg n)) (lg n) n i = pnt r' (fr n (ff (whyP lo lg r' wd hg n)) (lg n)) (lg n) n i
    unfold pnt
    split
    · rfl
    · exact i3 i i1 i2
  · rw [if_neg hc, if_neg hc]
    exact ⟨rfl, rfl, i3⟩
theorem C_wantsLabel (hz : Bsz G wd hg n) (hI : LabI G wd hg n W row s) (hc : 0 ≤ c ∧ c < 1600) : qD_wantsLabel z (J c) (hi z TD g w s) = rI (J (b01 (0 < SN G n c ∧ lbl W c < 0))) (hi z TD g w s) := by
  have b3 := SN_bd (W := G) (c := c) hz.2.2.1 hz.lb
  have f303 := hI.f303 hc.1 hc.2
  have hb := (lblOk_G hI.1) c hc.1 hc.2
  unfold qD_wantsLabel
  simp (disch := omega) only [↓gR_D0, ↓gR_D1, ↓gR_D2, ↓gR_D3, ↓gR_D4, ↓gR_D5, ↓gR_D6, ↓gR_D7, ↓gR_D8, ↓gR_D9, ↓gR_D10, ↓gI_D11, ↓pV_D11, ↓isO_D, ↓gI_T0, ↓pV_T0, ↓gR_T1, ↓isO_T, ↓rd_T2, ↓wr_T2, ↓gI_U0, ↓pV_U0, ↓gR_U1, ↓isO_U, ↓rd_U2, ↓wr_U2, ↓gI_Ps0, ↓pV_Ps0, ↓gI_Ps1, ↓pV_Ps1, ↓gI_Ps2, ↓pV_Ps2, ↓gI_Ps3, ↓pV_Ps3, ↓gI_Ps4, ↓pV_Ps4, ↓isO_Ps, ↓gI_N0, ↓pV_N0, ↓gI_N1, ↓pV_N1, ↓gI_N2, ↓pV_N2, ↓gI_N3, ↓pV_N3, ↓gR_N4, ↓gR_N5, ↓isO_N, ↓rd_NL, ↓gI_NB0, ↓pV_NB0, ↓gR_NB1, ↓gR_NB2, ↓isO_NB, ↓rd_NC, ↓wr_NC, ↓ln_NC, ↓rd_NP, ↓wr_NP, ↓ln_NP, ↓gI_V0, ↓pV_V0, ↓gI_V1, ↓pV_V1, ↓gI_V2, ↓pV_V2, ↓gI_V3, ↓pV_V3, ↓gR_V4, ↓gR_V5, ↓isO_V, ↓rd_VL, ↓gI_VB0, ↓pV_VB0, ↓gR_VB1, ↓gR_VB2, ↓isO_VB, ↓rd_VC, ↓wr_VC, ↓ln_VC, ↓rd_VP, ↓wr_VP, ↓ln_VP, ↓rd_SL, ↓rd_KP, ↓wr_KP, ↓gI_H0, ↓pV_H0, ↓gI_H1, ↓pV_H1, ↓gR_H2, ↓isO_H, ↓rd_HP, ↓gI_B0, ↓pV_B0, ↓gI_B1, ↓pV_B1, ↓gR_B2, ↓gR_B3, ↓gR_B4, ↓gR_B5, ↓gR_B6, ↓gR_B7, ↓gR_B8, ↓isO_B, ↓rd_B301, ↓wr_B301, ↓ln_B301, ↓rd_B302, ↓wr_B302, ↓ln_B302, ↓rd_B303, ↓wr_B303, ↓ln_B303, ↓rd_B304, ↓wr_B304, ↓ln_B304, ↓rd_B305, ↓wr_B305, ↓ln_B305, ↓rd_B306, ↓wr_B306, ↓ln_B306, ↓rd_B307, ↓wr_B307, ↓ln_B307, ↓gR_Tv, ↓isO_Tv, ↓rd_Tv9, ↓wr_Tv9, ↓ln_Tv9, pV_D11, pV_T0, rd_T2, wr_T2, pV_U0, rd_U2, wr_U2, pV_Ps0, pV_Ps1, pV_Ps2, pV_Ps3, pV_Ps4, pV_N0, pV_N1, pV_N2, pV_N3, rd_NL, pV_NB0, rd_NC, wr_NC, rd_NP, wr_NP, pV_V0, pV_V1, pV_V2, pV_V3, rd_VL, pV_VB0, rd_VC, wr_VC, rd_VP, wr_VP, rd_SL, rd_KP, wr_KP, pV_H0, pV_H1, rd_HP, pV_B0, pV_B1, rd_B301, wr_B301, rd_B302, wr_B302, rd_B303, wr_B303, rd_B304, wr_B304, rd_B305, wr_B305, rd_B306, wr_B306, rd_B307, wr_B307, rd_Tv9, wr_Tv9, J_l, J_neg, J_add, J_sub, J_mul, J_lt, J_le, J_eq, J_div2, J_rem2, J_shl1, J_orp, J_or, J_and, J_shr, J_ushr, J_max, J_min, J_abs, J_b0, ↓b0_ite, ↓b0_ite2, b0_ite, bI_r, bV_r, b01_ite, ite_true, ite_false, rZ_b, K_l, J_long, M_in, f303]
  by_cases h1 : 0 < SN G n c
  · rw [if_pos h1]
    simp (disch := omega) only [↓gR_D0, ↓gR_D1, ↓gR_D2, ↓gR_D3, ↓gR_D4, ↓gR_D5, ↓gR_D6, ↓gR_D7, ↓gR_D8, ↓gR_D9, ↓gR_D10, ↓gI_D11, ↓pV_D11, ↓isO_D, ↓gI_T0, ↓pV_T0, ↓gR_T1, ↓isO_T, ↓rd_T2, ↓wr_T2, ↓gI_U0, ↓pV_U0, ↓gR_U1, ↓isO_U, ↓rd_U2, ↓wr_U2, ↓gI_Ps0, ↓pV_Ps0, ↓gI_Ps1, ↓pV_Ps1, ↓gI_Ps2, ↓pV_Ps2, ↓gI_Ps3, ↓pV_Ps3, ↓gI_Ps4, ↓pV_Ps4, ↓isO_Ps, ↓gI_N0, ↓pV_N0, ↓gI_N1, ↓pV_N1, ↓gI_N2, ↓pV_N2, ↓gI_N3, ↓pV_N3, ↓gR_N4, ↓gR_N5, ↓isO_N, ↓rd_NL, ↓gI_NB0, ↓pV_NB0, ↓gR_NB1, ↓gR_NB2, ↓isO_NB, ↓rd_NC, ↓wr_NC, ↓ln_NC, ↓rd_NP, ↓wr_NP, ↓ln_NP, ↓gI_V0, ↓pV_V0, ↓gI_V1, ↓pV_V1, ↓gI_V2, ↓pV_V2, ↓gI_V3, ↓pV_V3, ↓gR_V4, ↓gR_V5, ↓isO_V, ↓rd_VL, ↓gI_VB0, ↓pV_VB0, ↓gR_VB1, ↓gR_VB2, ↓isO_VB, ↓rd_VC, ↓wr_VC, ↓ln_VC, ↓rd_VP, ↓wr_VP, ↓ln_VP, ↓rd_SL, ↓rd_KP, ↓wr_KP, ↓gI_H0, ↓pV_H0, ↓gI_H1, ↓pV_H1, ↓gR_H2, ↓isO_H, ↓rd_HP, ↓gI_B0, ↓pV_B0, ↓gI_B1, ↓pV_B1, ↓gR_B2, ↓gR_B3, ↓gR_B4, ↓gR_B5, ↓gR_B6, ↓gR_B7, ↓gR_B8, ↓isO_B, ↓rd_B301, ↓wr_B301, ↓ln_B301, ↓rd_B302, ↓wr_B302, ↓ln_B302, ↓rd_B303, ↓wr_B303, ↓ln_B303, ↓rd_B304, ↓wr_B304, ↓ln_B304, ↓rd_B305, ↓wr_B305, ↓ln_B305, ↓rd_B306, ↓wr_B306, ↓ln_B306, ↓rd_B307, ↓wr_B307, ↓ln_B307, ↓gR_Tv, ↓isO_Tv, ↓rd_Tv9, ↓wr_Tv9, ↓ln_Tv9, pV_D11, pV_T0, rd_T2, wr_T2, pV_U0, rd_U2, wr_U2, pV_Ps0, pV_Ps1, pV_Ps2, pV_Ps3, pV_Ps4, pV_N0, pV_N1, pV_N2, pV_N3, rd_NL, pV_NB0, rd_NC, wr_NC, rd_NP, wr_NP, pV_V0, pV_V1, pV_V2, pV_V3, rd_VL, pV_VB0, rd_VC, wr_VC, rd_VP, wr_VP, rd_SL, rd_KP, wr_KP, pV_H0, pV_H1, rd_HP, pV_B0, pV_B1, rd_B301, wr_B301, rd_B302, wr_B302, rd_B303, wr_B303, rd_B304, wr_B304, rd_B305, wr_B305, rd_B306, wr_B306, rd_B307, wr_B307, rd_Tv9, wr_Tv9, J_l, J_neg, J_add, J_sub, J_mul, J_lt, J_le, J_eq, J_div2, J_rem2, J_shl1, J_orp, J_or, J_and, J_shr, J_ushr, J_max, J_min, J_abs, J_b0, ↓b0_ite, ↓b0_ite2, b0_ite, bI_r, bV_r, b01_ite, ite_true, ite_false, rZ_b, K_l, J_long, M_in, C_positionOf2 hz hI hc]
    (repeat' split) <;> first | (rw [b01_pos (by omega)]) | (rw [b01_neg (by omega)]) | exact congrArg (fun v => rI (J v) _) (b01_congr (by omega)) | rfl
  · rw [if_neg h1, b01_neg (by omega)]
theorem C_labelPlaces (hz : Bsz G wd hg n) (hI : LabI G wd hg n W row s) : ∃ s', qD_labelPlaces z (hi z TD g w s) = rI (J (la (LO G n) (LN G n) (SN G n) wd hg W row 1600).2.2) (hi z TD g w s') ∧ (∀ o, o ≠ 8 → o ≠ 9 → o ≠ 10 → o ≠ 306 → s' o = s o) ∧ LabI G wd hg n (la (LO G n) (LN G n) (SN G n) wd hg W row 1600).1 (la (LO G n) (LN G n) (SN G n) wd hg W row 1600).2.1 s' := by
  have inv := la_inv hI.1 hI.2.1
  generalize hR : la (LO G n) (LN G n) (SN G n) wd hg W row = R at *
  have hR0 : (R 0).2.2 = 0 := by rw [← hR]; rfl
  have key := loopI (S := Int × CT) (fun N q => qD_labelPlaces_4 N z (J (R q.1).2.2) (J q.1) (hi z TD g w q.2)) (fun X => ∃ s', X = rI (J (R 1600).2.2) (hi z TD g w s') ∧ (∀ o, o ≠ 8 → o ≠ 9 → o ≠ 10 → o ≠ 306 → s' o = s o) ∧ LabI G wd hg n (R 1600).1 (R 1600).2.1 s') (fun q => (0 ≤ q.1 ∧ q.1 ≤ 1600) ∧ (∀ o, o ≠ 8 → o ≠ 9 → o ≠ 10 → o ≠ 306 → q.2 o = s o) ∧ LabI G wd hg n (R q.1).1 (R q.1).2.1 q.2) (fun q => 1600 - q.1) (by intro q hq; omega) (fun N q hq ih => by
    obtain ⟨c, u⟩ := q
    obtain ⟨⟨c1, c2⟩, hu, hIu⟩ := hq
    change 0 ≤ c at c1
    change c ≤ 1600 at c2
    change ∀ o, o ≠ 8 → o ≠ 9 → o ≠ 10 → o ≠ 306 → u o = s o at hu
    change LabI G wd hg n (R c).1 (R c).2.1 u at hIu
    have iv := inv c c1 c2
    show ∃ s', qD_labelPlaces_4_b (qD_labelPlaces_4 N) z (J (R c).2.2) (J c) (hi z TD g w u) = _ ∧ _
    unfold qD_labelPlaces_4_b qD_labelPlaces_32
    by_cases hc : c < 1600
    · have eRs := la_s (lo := LO G n) (lg := LN G n) (sn := SN G n) (wd := wd) (hg := hg) (W := W) (r0 := row) c1
      rw [hR] at eRs
      simp (disch := omega) only [↓gR_D0, ↓gR_D1, ↓gR_D2, ↓gR_D3, ↓gR_D4, ↓gR_D5, ↓gR_D6, ↓gR_D7, ↓gR_D8, ↓gR_D9, ↓gR_D10, ↓gI_D11, ↓pV_D11, ↓isO_D, ↓gI_T0, ↓pV_T0, ↓gR_T1, ↓isO_T, ↓rd_T2, ↓wr_T2, ↓gI_U0, ↓pV_U0, ↓gR_U1, ↓isO_U, ↓rd_U2, ↓wr_U2, ↓gI_Ps0, ↓pV_Ps0, ↓gI_Ps1, ↓pV_Ps1, ↓gI_Ps2, ↓pV_Ps2, ↓gI_Ps3, ↓pV_Ps3, ↓gI_Ps4, ↓pV_Ps4, ↓isO_Ps, ↓gI_N0, ↓pV_N0, ↓gI_N1, ↓pV_N1, ↓gI_N2, ↓pV_N2, ↓gI_N3, ↓pV_N3, ↓gR_N4, ↓gR_N5, ↓isO_N, ↓rd_NL, ↓gI_NB0, ↓pV_NB0, ↓gR_NB1, ↓gR_NB2, ↓isO_NB, ↓rd_NC, ↓wr_NC, ↓ln_NC, ↓rd_NP, ↓wr_NP, ↓ln_NP, ↓gI_V0, ↓pV_V0, ↓gI_V1, ↓pV_V1, ↓gI_V2, ↓pV_V2, ↓gI_V3, ↓pV_V3, ↓gR_V4, ↓gR_V5, ↓isO_V, ↓rd_VL, ↓gI_VB0, ↓pV_VB0, ↓gR_VB1, ↓gR_VB2, ↓isO_VB, ↓rd_VC, ↓wr_VC, ↓ln_VC, ↓rd_VP, ↓wr_VP, ↓ln_VP, ↓rd_SL, ↓rd_KP, ↓wr_KP, ↓gI_H0, ↓pV_H0, ↓gI_H1, ↓pV_H1, ↓gR_H2, ↓isO_H, ↓rd_HP, ↓gI_B0, ↓pV_B0, ↓gI_B1, ↓pV_B1, ↓gR_B2, ↓gR_B3, ↓gR_B4, ↓gR_B5, ↓gR_B6, ↓gR_B7, ↓gR_B8, ↓isO_B, ↓rd_B301, ↓wr_B301, ↓ln_B301, ↓rd_B302, ↓wr_B302, ↓ln_B302, ↓rd_B303, ↓wr_B303, ↓ln_B303, ↓rd_B304, ↓wr_B304, ↓ln_B304, ↓rd_B305, ↓wr_B305, ↓ln_B305, ↓rd_B306, ↓wr_B306, ↓ln_B306, ↓rd_B307, ↓wr_B307, ↓ln_B307, ↓gR_Tv, ↓isO_Tv, ↓rd_Tv9, ↓wr_Tv9, ↓ln_Tv9, pV_D11, pV_T0, rd_T2, wr_T2, pV_U0, rd_U2, wr_U2, pV_Ps0, pV_Ps1, pV_Ps2, pV_Ps3, pV_Ps4, pV_N0, pV_N1, pV_N2, pV_N3, rd_NL, pV_NB0, rd_NC, wr_NC, rd_NP, wr_NP, pV_V0, pV_V1, pV_V2, pV_V3, rd_VL, pV_VB0, rd_VC, wr_VC, rd_VP, wr_VP, rd_SL, rd_KP, wr_KP, pV_H0, pV_H1, rd_HP, pV_B0, pV_B1, rd_B301, wr_B301, rd_B302, wr_B302, rd_B303, wr_B303, rd_B304, wr_B304, rd_B305, wr_B305, rd_B306, wr_B306, rd_B307, wr_B307, rd_Tv9, wr_Tv9, J_l, J_neg, J_add, J_sub, J_mul, J_lt, J_le, J_eq, J_div2, J_rem2, J_shl1, J_orp, J_or, J_and, J_shr, J_ushr, J_max, J_min, J_abs, J_b0, ↓b0_ite, ↓b0_ite2, b0_ite, bI_r, bV_r, b01_ite, ite_true, ite_false, rZ_b, K_l, J_long, M_in, if_pos, C_wantsLabel hz hIu ⟨c1, hc⟩]
      have hno : ¬(0 < SN G n c ∧ lbl (R c).1 c < 0 ∧ 0 ≤ ff (whyP (LO G n) (LN G n) (R c).2.1 wd hg c)) → ∃ s', qD_labelPlaces_4 N z (J (R c).2.2) (J (c + 1)) (hi z TD g w u) = rI (J (R 1600).2.2) (hi z TD g w s') ∧ (∀ o, o ≠ 8 → o ≠ 9 → o ≠ 10 → o ≠ 306 → s' o = s o) ∧ LabI G wd hg n (R 1600).1 (R 1600).2.1 s' := by
        intro hx
        rw [if_neg hx] at eRs
        have := ih (c + 1, u) ⟨⟨by show 0 ≤ c + 1; omega, by show c + 1 ≤ 1600; omega⟩, hu, by show LabI G wd hg n (R (c + 1)).1 (R (c + 1)).2.1 u; rw [eRs]; exact hIu⟩ (by show 1600 - (c + 1) < 1600 - c; omega)
        simp only [eRs] at this
        exact this
      by_cases hwant : 0 < SN G n c ∧ lbl (R c).1 c < 0
      · rw [if_pos hwant]
        have hLc := LN_pos (c := c) hz.lb hz.2.2.1.1 hwant.1
        have x1 := C_firstFit (z := z) (g := g) (w := w) (s := u) (c := c) ⟨c1, hc⟩ (hIu.rs hz) (by rw [hIu.f305 c1 hc]; exact hLc.1)
        have ex : ff (whyC u c) = ff (whyP (LO G n) (LN G n) (R c).2.1 wd hg c) := ff_congr fun p _ _ => whyC_of hz.1 hz.2.1 ⟨c1, hc⟩ hIu.2.2.2
        rw [ex] at x1
        have fb := ff_bd (f := whyP (LO G n) (LN G n) (R c).2.1 wd hg c)
        simp (disch := omega) only [↓gR_D0, ↓gR_D1, ↓gR_D2, ↓gR_D3, ↓gR_D4, ↓gR_D5, ↓gR_D6, ↓gR_D7, ↓gR_D8, ↓gR_D9, ↓gR_D10, ↓gI_D11, ↓pV_D11, ↓isO_D, ↓gI_T0, ↓pV_T0, ↓gR_T1, ↓isO_T, ↓rd_T2, ↓wr_T2, ↓gI_U0, ↓pV_U0, ↓gR_U1, ↓isO_U, ↓rd_U2, ↓wr_U2, ↓gI_Ps0, ↓pV_Ps0, ↓gI_Ps1, ↓pV_Ps1, ↓gI_Ps2, ↓pV_Ps2, ↓gI_Ps3, ↓pV_Ps3, ↓gI_Ps4, ↓pV_Ps4, ↓isO_Ps, ↓gI_N0, ↓pV_N0, ↓gI_N1, ↓pV_N1, ↓gI_N2, ↓pV_N2, ↓gI_N3, ↓pV_N3, ↓gR_N4, ↓gR_N5, ↓isO_N, ↓rd_NL, ↓gI_NB0, ↓pV_NB0, ↓gR_NB1, ↓gR_NB2, ↓isO_NB, ↓rd_NC, ↓wr_NC, ↓ln_NC, ↓rd_NP, ↓wr_NP, ↓ln_NP, ↓gI_V0, ↓pV_V0, ↓gI_V1, ↓pV_V1, ↓gI_V2, ↓pV_V2, ↓gI_V3, ↓pV_V3, ↓gR_V4, ↓gR_V5, ↓isO_V, ↓rd_VL, ↓gI_VB0, ↓pV_VB0, ↓gR_VB1, ↓gR_VB2, ↓isO_VB, ↓rd_VC, ↓wr_VC, ↓ln_VC, ↓rd_VP, ↓wr_VP, ↓ln_VP, ↓rd_SL, ↓rd_KP, ↓wr_KP, ↓gI_H0, ↓pV_H0, ↓gI_H1, ↓pV_H1, ↓gR_H2, ↓isO_H, ↓rd_HP, ↓gI_B0, ↓pV_B0, ↓gI_B1, ↓pV_B1, ↓gR_B2, ↓gR_B3, ↓gR_B4, ↓gR_B5, ↓gR_B6, ↓gR_B7, ↓gR_B8, ↓isO_B, ↓rd_B301, ↓wr_B301, ↓ln_B301, ↓rd_B302, ↓wr_B302, ↓ln_B302, ↓rd_B303, ↓wr_B303, ↓ln_B303, ↓rd_B304, ↓wr_B304, ↓ln_B304, ↓rd_B305, ↓wr_B305, ↓ln_B305, ↓rd_B306, ↓wr_B306, ↓ln_B306, ↓rd_B307, ↓wr_B307, ↓ln_B307, ↓gR_Tv, ↓isO_Tv, ↓rd_Tv9, ↓wr_Tv9, ↓ln_Tv9, pV_D11, pV_T0, rd_T2, wr_T2, pV_U0, rd_U2, wr_U2, pV_Ps0, pV_Ps1, pV_Ps2, pV_Ps3, pV_Ps4, pV_N0, pV_N1, pV_N2, pV_N3, rd_NL, pV_NB0, rd_NC, wr_NC, rd_NP, wr_NP, pV_V0, pV_V1, pV_V2, pV_V3, rd_VL, pV_VB0, rd_VC, wr_VC, rd_VP, wr_VP, rd_SL, rd_KP, wr_KP, pV_H0, pV_H1, rd_HP, pV_B0, pV_B1, rd_B301, wr_B301, rd_B302, wr_B302, rd_B303, wr_B303, rd_B304, wr_B304, rd_B305, wr_B305, rd_B306, wr_B306, rd_B307, wr_B307, rd_Tv9, wr_Tv9, J_l, J_neg, J_add, J_sub, J_mul, J_lt, J_le, J_eq, J_div2, J_rem2, J_shl1, J_orp, J_or, J_and, J_shr, J_ushr, J_max, J_min, J_abs, J_b0, ↓b0_ite, ↓b0_ite2, b0_ite, bI_r, bV_r, b01_ite, ite_true, ite_false, rZ_b, K_l, J_long, M_in, x1]
        by_cases hf : ff (whyP (LO G n) (LN G n) (R c).2.1 wd hg c) < 0
        · rw [if_pos hf]
          exact hno (by omega)
        · rw [if_neg hf]
          have hcond : 0 < SN G n c ∧ lbl (R c).1 c < 0 ∧ 0 ≤ ff (whyP (LO G n) (LN G n) (R c).2.1 wd hg c) := ⟨hwant.1, hwant.2, by omega⟩
          rw [if_pos hcond] at eRs
          have hff := ff_free hcond.2.2
          obtain ⟨s', y1, y2, y3⟩ := C_put0 (z := z) (g := g) (w := w) hz hIu ⟨c1, hc⟩ hwant.2 hff.1 hwant.1 hff.2
          simp (disch := omega) only [↓gR_D0, ↓gR_D1, ↓gR_D2, ↓gR_D3, ↓gR_D4, ↓gR_D5, ↓gR_D6, ↓gR_D7, ↓gR_D8, ↓gR_D9, ↓gR_D10, ↓gI_D11, ↓pV_D11, ↓isO_D, ↓gI_T0, ↓pV_T0, ↓gR_T1, ↓isO_T, ↓rd_T2, ↓wr_T2, ↓gI_U0, ↓pV_U0, ↓gR_U1, ↓isO_U, ↓rd_U2, ↓wr_U2, ↓gI_Ps0, ↓pV_Ps0, ↓gI_Ps1, ↓pV_Ps1, ↓gI_Ps2, ↓pV_Ps2, ↓gI_Ps3, ↓pV_Ps3, ↓gI_Ps4, ↓pV_Ps4, ↓isO_Ps, ↓gI_N0, ↓pV_N0, ↓gI_N1, ↓pV_N1, ↓gI_N2, ↓pV_N2, ↓gI_N3, ↓pV_N3, ↓gR_N4, ↓gR_N5, ↓isO_N, ↓rd_NL, ↓gI_NB0, ↓pV_NB0, ↓gR_NB1, ↓gR_NB2, ↓isO_NB, ↓rd_NC, ↓wr_NC, ↓ln_NC, ↓rd_NP, ↓wr_NP, ↓ln_NP, ↓gI_V0, ↓pV_V0, ↓gI_V1, ↓pV_V1, ↓gI_V2, ↓pV_V2, ↓gI_V3, ↓pV_V3, ↓gR_V4, ↓gR_V5, ↓isO_V, ↓rd_VL, ↓gI_VB0, ↓pV_VB0, ↓gR_VB1, ↓gR_VB2, ↓isO_VB, ↓rd_VC, ↓wr_VC, ↓ln_VC, ↓rd_VP, ↓wr_VP, ↓ln_VP, ↓rd_SL, ↓rd_KP, ↓wr_KP, ↓gI_H0, ↓pV_H0, ↓gI_H1, ↓pV_H1, ↓gR_H2, ↓isO_H, ↓rd_HP, ↓gI_B0, ↓pV_B0, ↓gI_B1, ↓pV_B1, ↓gR_B2, ↓gR_B3, ↓gR_B4, ↓gR_B5, ↓gR_B6, ↓gR_B7, ↓gR_B8, ↓isO_B, ↓rd_B301, ↓wr_B301, ↓ln_B301, ↓rd_B302, ↓wr_B302, ↓ln_B302, ↓rd_B303, ↓wr_B303, ↓ln_B303, ↓rd_B304, ↓wr_B304, ↓ln_B304, ↓rd_B305, ↓wr_B305, ↓ln_B305, ↓rd_B306, ↓wr_B306, ↓ln_B306, ↓rd_B307, ↓wr_B307, ↓ln_B307, ↓gR_Tv, ↓isO_Tv, ↓rd_Tv9, ↓wr_Tv9, ↓ln_Tv9, pV_D11, pV_T0, rd_T2, wr_T2, pV_U0, rd_U2, wr_U2, pV_Ps0, pV_Ps1, pV_Ps2, pV_Ps3, pV_Ps4, pV_N0, pV_N1, pV_N2, pV_N3, rd_NL, pV_NB0, rd_NC, wr_NC, rd_NP, wr_NP, pV_V0, pV_V1, pV_V2, pV_V3, rd_VL, pV_VB0, rd_VC, wr_VC, rd_VP, wr_VP, rd_SL, rd_KP, wr_KP, pV_H0, pV_H1, rd_HP, pV_B0, pV_B1, rd_B301, wr_B301, rd_B302, wr_B302, rd_B303, wr_B303, rd_B304, wr_B304, rd_B305, wr_B305, rd_B306, wr_B306, rd_B307, wr_B307, rd_Tv9, wr_Tv9, J_l, J_neg, J_add, J_sub, J_mul, J_lt, J_le, J_eq, J_div2, J_rem2, J_shl1, J_orp, J_or, J_and, J_shr, J_ushr, J_max, J_min, J_abs, J_b0, ↓b0_ite, ↓b0_ite2, b0_ite, bI_r, bV_r, b01_ite, ite_true, ite_false, rZ_b, K_l, J_long, M_in, y1]
          have := ih (c + 1, s') ⟨⟨by show 0 ≤ c + 1; omega, by show c + 1 ≤ 1600; omega⟩, fun o o1 o2 o3 o4 => by show s' o = s o; rw [y2 o o1 o2 o3 o4, hu o o1 o2 o3 o4], by show LabI G wd hg n (R (c + 1)).1 (R (c + 1)).2.1 s'; rw [eRs]; exact y3⟩ (by show 1600 - (c + 1) < 1600 - c; omega)
          simp only [eRs] at this
          exact this
      · rw [if_neg hwant]
        try simp (disch := omega) only [J_l, J_neg, J_add, J_sub, J_mul, J_lt, J_le, J_eq, J_div2, J_rem2, J_shl1, J_orp, J_or, J_and, J_shr, J_ushr, J_max, J_min, J_abs, J_b0, ↓b0_ite, ↓b0_ite2, b0_ite, bI_r, bV_r, b01_ite, ite_true, ite_false, rZ_b, K_l, J_long, M_in, if_pos]
        exact hno (fun hx => hwant ⟨hx.1, hx.2.1⟩)
    · have e : c = 1600 := by omega
      subst e
      simp (disch := omega) only [J_l, J_neg, J_add, J_sub, J_mul, J_lt, J_le, J_eq, J_div2, J_rem2, J_shl1, J_orp, J_or, J_and, J_shr, J_ushr, J_max, J_min, J_abs, J_b0, ↓b0_ite, ↓b0_ite2, b0_ite, bI_r, bV_r, b01_ite, ite_true, ite_false, rZ_b, K_l, J_long, M_in, if_neg]
      exact ⟨u, rfl, hu, hIu⟩) (0, s) ⟨⟨by show (0 : Int) ≤ 0; omega, by show (0 : Int) ≤ 1600; omega⟩, fun o _ _ _ _ => rfl, by show LabI G wd hg n (R 0).1 (R 0).2.1 s; rw [← hR]; exact hI⟩ (by show (1600 : Int) - 0 < 20000; omega)
  simp only [hR0] at key
  exact key
/-! the model's -/
theorem M_gets (hw : 4 ≤ wd ∧ wd ≤ 40) (hh : 4 ≤ hg ∧ hg ≤ 40) (hc : 0 ≤ c ∧ c < 1600) (hp : 0 ≤ p ∧ p < 8) (hL : 0 ≤ m 14 c ∧ m 14 c ≤ 12) (ho : ¬offP wd hg c p (m 14 c)) : qM_gets y (J c) (J p) (hi y TM g w m) = rV (hi y TM g w (rs (rs m 3 (ru (m 3) (184 + c) p)) 15 (pnt (m 15) (fr c p (m 14 c)) (m 14 c) c))) := by
  have x1 := M_laysLabel (y := y) (g := g) (w := w) (m := rs m 3 (ru (m 3) (184 + c) p)) (c := c) (p := p) (v := c) hc hp (by rw [rs_ne (by decide)]; exact hL) hw hh (by rw [rs_ne (by decide)]; exact ho)
  rw [rs_ne (by decide), rs_ne (by decide)] at x1
  unfold qM_gets
  simp (disch := omega) only [↓isO_M, ↓gL_H, ↓pL_H, ↓gI_M1, ↓gI_M2, ↓gI_M3, ↓gI_M4, ↓gI_M5, ↓gI_M6, ↓gI_M13, ↓gI_M22, ↓gI_M23, ↓gI_M24, ↓gI_M25, ↓gI_M27, ↓gI_M28, ↓gI_M29, ↓gI_M30, ↓gI_M31, ↓gI_M32, ↓gI_M33, ↓gI_M34, ↓gI_M35, ↓gI_M40, ↓gI_M41, ↓gI_M42, ↓gI_M43, ↓pV_M1, ↓pV_M2, ↓pV_M3, ↓pV_M4, ↓pV_M5, ↓pV_M6, ↓pV_M13, ↓pV_M22, ↓pV_M23, ↓pV_M24, ↓pV_M25, ↓pV_M27, ↓pV_M28, ↓pV_M29, ↓pV_M30, ↓pV_M31, ↓pV_M32, ↓pV_M33, ↓pV_M34, ↓pV_M35, ↓pV_M40, ↓pV_M41, ↓pV_M42, ↓pV_M43, ↓gR_M0, ↓gR_M7, ↓gR_M8, ↓gR_M9, ↓gR_M10, ↓gR_M11, ↓gR_M12, ↓gR_M14, ↓gR_M15, ↓gR_M16, ↓gR_M17, ↓gR_M18, ↓gR_M19, ↓gR_M20, ↓gR_M21, ↓gR_M36, ↓gR_M37, ↓gR_M38, ↓gR_M39, ↓rd_M1, ↓rd_M2, ↓rd_M3, ↓rd_M4, ↓rd_M5, ↓rd_M6, ↓rd_M7, ↓rd_M8, ↓rd_M9, ↓rd_M10, ↓rd_M11, ↓rd_M12, ↓rd_M13, ↓rd_M14, ↓rd_M15, ↓rd_M16, ↓rd_M17, ↓rd_M18, ↓rd_M19, ↓wr_M1, ↓wr_M2, ↓wr_M3, ↓wr_M4, ↓wr_M5, ↓wr_M6, ↓wr_M7, ↓wr_M8, ↓wr_M9, ↓wr_M10, ↓wr_M11, ↓wr_M12, ↓wr_M13, ↓wr_M14, ↓wr_M15, ↓wr_M16, ↓wr_M17, ↓wr_M18, ↓wr_M19, pL_H, pV_M1, pV_M2, pV_M3, pV_M4, pV_M5, pV_M6, pV_M13, pV_M22, pV_M23, pV_M24, pV_M25, pV_M27, pV_M28, pV_M29, pV_M30, pV_M31, pV_M32, pV_M33, pV_M34, pV_M35, pV_M40, pV_M41, pV_M42, pV_M43, rd_M1, rd_M2, rd_M3, rd_M4, rd_M5, rd_M6, rd_M7, rd_M8, rd_M9, rd_M10, rd_M11, rd_M12, rd_M13, rd_M14, rd_M15, rd_M16, rd_M17, rd_M18, rd_M19, wr_M1, wr_M2, wr_M3, wr_M4, wr_M5, wr_M6, wr_M7, wr_M8, wr_M9, wr_M10, wr_M11, wr_M12, wr_M13, wr_M14, wr_M15, wr_M16, wr_M17, wr_M18, wr_M19, J_l, J_neg, J_add, J_sub, J_mul, J_lt, J_le, J_eq, J_div2, J_rem2, J_shl1, J_orp, J_or, J_and, J_shr, J_ushr, J_max, J_min, J_abs, J_b0, ↓b0_ite, ↓b0_ite2, b0_ite, bI_r, bV_r, b01_ite, ite_true, ite_false, rZ_b, K_l, J_long, M_in, x1]
theorem M_loses (hw : 4 ≤ wd ∧ wd ≤ 40) (hh : 4 ≤ hg ∧ hg ≤ 40) (hc : 0 ≤ c ∧ c < 1600) (hl : 0 ≤ lbl (m 3) c ∧ lbl (m 3) c < 8) (hL : 0 ≤ m 14 c ∧ m 14 c ≤ 12) (ho : ¬offP wd hg c (lbl (m 3) c) (m 14 c)) : qM_loses y (J c) (hi y TM g w m) = rV (hi y TM g w (rs (rs m 15 (pnt (m 15) (fr c (lbl (m 3) c) (m 14 c)) (m 14 c) (-2))) 3 (ru (m 3) (184 + c) (-2)))) := by
  have x1 := M_laysLabel (y := y) (g := g) (w := w) (m := m) (c := c) (p := lbl (m 3) c) (v := -2) hc hl hL hw hh ho
  unfold qM_loses
  simp (disch := omega) only [↓isO_M, ↓gL_H, ↓pL_H, ↓gI_M1, ↓gI_M2, ↓gI_M3, ↓gI_M4, ↓gI_M5, ↓gI_M6, ↓gI_M13, ↓gI_M22, ↓gI_M23, ↓gI_M24, ↓gI_M25, ↓gI_M27, ↓gI_M28, ↓gI_M29, ↓gI_M30, ↓gI_M31, ↓gI_M32, ↓gI_M33, ↓gI_M34, ↓gI_M35, ↓gI_M40, ↓gI_M41, ↓gI_M42, ↓gI_M43, ↓pV_M1, ↓pV_M2, ↓pV_M3, ↓pV_M4, ↓pV_M5, ↓pV_M6, ↓pV_M13, ↓pV_M22, ↓pV_M23, ↓pV_M24, ↓pV_M25, ↓pV_M27, ↓pV_M28, ↓pV_M29, ↓pV_M30, ↓pV_M31, ↓pV_M32, ↓pV_M33, ↓pV_M34, ↓pV_M35, ↓pV_M40, ↓pV_M41, ↓pV_M42, ↓pV_M43, ↓gR_M0, ↓gR_M7, ↓gR_M8, ↓gR_M9, ↓gR_M10, ↓gR_M11, ↓gR_M12, ↓gR_M14, ↓gR_M15, ↓gR_M16, ↓gR_M17, ↓gR_M18, ↓gR_M19, ↓gR_M20, ↓gR_M21, ↓gR_M36, ↓gR_M37, ↓gR_M38, ↓gR_M39, ↓rd_M1, ↓rd_M2, ↓rd_M3, ↓rd_M4, ↓rd_M5, ↓rd_M6, ↓rd_M7, ↓rd_M8, ↓rd_M9, ↓rd_M10, ↓rd_M11, ↓rd_M12, ↓rd_M13, ↓rd_M14, ↓rd_M15, ↓rd_M16, ↓rd_M17, ↓rd_M18, ↓rd_M19, ↓wr_M1, ↓wr_M2, ↓wr_M3, ↓wr_M4, ↓wr_M5, ↓wr_M6, ↓wr_M7, ↓wr_M8, ↓wr_M9, ↓wr_M10, ↓wr_M11, ↓wr_M12, ↓wr_M13, ↓wr_M14, ↓wr_M15, ↓wr_M16, ↓wr_M17, ↓wr_M18, ↓wr_M19, pL_H, pV_M1, pV_M2, pV_M3, pV_M4, pV_M5, pV_M6, pV_M13, pV_M22, pV_M23, pV_M24, pV_M25, pV_M27, pV_M28, pV_M29, pV_M30, pV_M31, pV_M32, pV_M33, pV_M34, pV_M35, pV_M40, pV_M41, pV_M42, pV_M43, rd_M1, rd_M2, rd_M3, rd_M4, rd_M5, rd_M6, rd_M7, rd_M8, rd_M9, rd_M10, rd_M11, rd_M12, rd_M13, rd_M14, rd_M15, rd_M16, rd_M17, rd_M18, rd_M19, wr_M1, wr_M2, wr_M3, wr_M4, wr_M5, wr_M6, wr_M7, wr_M8, wr_M9, wr_M10, wr_M11, wr_M12, wr_M13, wr_M14, wr_M15, wr_M16, wr_M17, wr_M18, wr_M19, J_l, J_neg, J_add, J_sub, J_mul, J_lt, J_le, J_eq, J_div2, J_rem2, J_shl1, J_orp, J_or, J_and, J_shr, J_ushr, J_max, J_min, J_abs, J_b0, ↓b0_ite, ↓b0_ite2, b0_ite, bI_r, bV_r, b01_ite, ite_true, ite_false, rZ_b, K_l, J_long, M_in, rs_same, rs_ne, rs_rs, ru_same, ru_ne, ne_eq, x1, M_labelOf]
/-- the model's laid lines over G, labels W, row -/
def LabM (G : Int → Int) (wd hg n : Int) (W row : Int → Int) (m : CT) : Prop := (m 0 3 = wd ∧ m 0 4 = hg) ∧ (∀ c, 0 ≤ c → c < 1600 → m 10 c = LO G n c ∧ m 12 c = SN G n c ∧ m 14 c = LN G n c) ∧ m 3 = W ∧ m 15 = row ∧ GN (LO G n) (LN G n) (SN G n) wd hg W 1600 ∧ Own (LN G n) W row 1600
theorem LabM.wi (hz : Bsz G wd hg n) (hI : LabM G wd hg n W row m) : WhI m := by
  obtain ⟨⟨h1, h2⟩, h3, h4, h5, h6, h7⟩ := hI
  refine ⟨by rw [h1]; exact hz.1, by rw [h2]; exact hz.2.1, fun i i1 i2 => ⟨?_, ?_, ?_⟩⟩
  · rw [(h3 i i1 i2).1]; exact LO_nn
  · rw [(h3 i i1 i2).2.2]; exact LN_bd hz.2.2.1.1 hz.lb
  · rw [h5]; exact Own_bd h7 (by omega) i i1 i2
theorem LabM.why (hz : Bsz G wd hg n) (hI : LabM G wd hg n W row m) (hc : 0 ≤ c ∧ c < 1600) : whyM m c p = whyP (LO G n) (LN G n) row wd hg c p := by
  obtain ⟨⟨h1, h2⟩, h3, h4, h5, h6, h7⟩ := hI
  unfold whyM
  rw [h1, h2, h5]
  exact why_congr hc hz.1 hz.2.1 (fun i i1 i2 => by rw [(h3 i i1 i2).1]) (h3 c hc.1 hc.2).2.2 (fun _ _ _ => Iff.rfl)
theorem LabM.o (hI : LabM G wd hg n W row m) : LabM G wd hg n W row (o22 m v) := by
  unfold LabM at *
  rw [o22_0 (by decide), o22_0 (by decide), o22_ne (by decide), o22_ne (by decide), o22_ne (by decide), o22_ne (by decide), o22_ne (by decide)]
  exact hI
theorem M_labels (hz : Bsz G wd hg n) (hI : LabM G wd hg n W row m) : ∃ m', qM_labels y (hi y TM g w m) = rI (J (la (LO G n) (LN G n) (SN G n) wd hg W row 1600).2.2) (hi y TM g w m') ∧ (∀ o, o ≠ 0 → o ≠ 3 → o ≠ 15 → m' o = m o) ∧ (∀ j, j ≠ 22 → m' 0 j = m 0 j) ∧ LabM G wd hg n (la (LO G n) (LN G n) (SN G n) wd hg W row 1600).1 (la (LO G n) (LN G n) (SN G n) wd hg W row 1600).2.1 m' := by
  have inv := la_inv hI.2.2.2.2.1 hI.2.2.2.2.2
  generalize hR : la (LO G n) (LN G n) (SN G n) wd hg W row = R at *
  have hR0 : (R 0).2.2 = 0 := by rw [← hR]; rfl
  have key := loopI (S := Int × CT) (fun N q => qM_labels_4 N y (J (R q.1).2.2) (J q.1) (hi y TM g w q.2)) (fun X => ∃ m', X = rI (J (R 1600).2.2) (hi y TM g w m') ∧ (∀ o, o ≠ 0 → o ≠ 3 → o ≠ 15 → m' o = m o) ∧ (∀ j, j ≠ 22 → m' 0 j = m 0 j) ∧ LabM G wd hg n (R 1600).1 (R 1600).2.1 m') (fun q => (0 ≤ q.1 ∧ q.1 ≤ 1600) ∧ (∀ o, o ≠ 0 → o ≠ 3 → o ≠ 15 → q.2 o = m o) ∧ (∀ j, j ≠ 22 → q.2 0 j = m 0 j) ∧ LabM G wd hg n (R q.1).1 (R q.1).2.1 q.2) (fun q => 1600 - q.1) (by intro q hq; omega) (fun N q hq ih => by
    obtain ⟨c, u⟩ := q
    obtain ⟨⟨c1, c2⟩, hu, hu0, hIu⟩ := hq
    change 0 ≤ c at c1
    change c ≤ 1600 at c2
    change ∀ o, o ≠ 0 → o ≠ 3 → o ≠ 15 → u o = m o at hu
    change ∀ j, j ≠ 22 → u 0 j = m 0 j at hu0
    change LabM G wd hg n (R c).1 (R c).2.1 u at hIu
    have iv := inv c c1 c2
    show ∃ s', qM_labels_4_b (qM_labels_4 N) y (J (R c).2.2) (J c) (hi y TM g w u) = _ ∧ _
    unfold qM_labels_4_b qM_labels_35 qM_labels_37
    by_cases hc : c < 1600
    · have eRs := la_s (lo := LO G n) (lg := LN G n) (sn := SN G n) (wd := wd) (hg := hg) (W := W) (r0 := row) c1
      rw [hR] at eRs
      have b3 := SN_bd (W := G) (c := c) hz.2.2.1 hz.lb
      have f12 := (hIu.2.1 c c1 hc).2.1
      have f14 := (hIu.2.1 c c1 hc).2.2
      have xp := M_isPlace (y := y) (g := g) (w := w) (m := u) (c := c) ⟨c1, hc⟩ (by omega)
      rw [f12] at xp
      have xl := M_labelOf (y := y) (g := g) (w := w) (m := u) (c := c) ⟨c1, hc⟩
      rw [hIu.2.2.1] at xl
      have hb := (lblOk_G iv.1) c c1 hc
      simp (disch := omega) only [↓isO_M, ↓gL_H, ↓pL_H, ↓gI_M1, ↓gI_M2, ↓gI_M3, ↓gI_M4, ↓gI_M5, ↓gI_M6, ↓gI_M13, ↓gI_M22, ↓gI_M23, ↓gI_M24, ↓gI_M25, ↓gI_M27, ↓gI_M28, ↓gI_M29, ↓gI_M30, ↓gI_M31, ↓gI_M32, ↓gI_M33, ↓gI_M34, ↓gI_M35, ↓gI_M40, ↓gI_M41, ↓gI_M42, ↓gI_M43, ↓pV_M1, ↓pV_M2, ↓pV_M3, ↓pV_M4, ↓pV_M5, ↓pV_M6, ↓pV_M13, ↓pV_M22, ↓pV_M23, ↓pV_M24, ↓pV_M25, ↓pV_M27, ↓pV_M28, ↓pV_M29, ↓pV_M30, ↓pV_M31, ↓pV_M32, ↓pV_M33, ↓pV_M34, ↓pV_M35, ↓pV_M40, ↓pV_M41, ↓pV_M42, ↓pV_M43, ↓gR_M0, ↓gR_M7, ↓gR_M8, ↓gR_M9, ↓gR_M10, ↓gR_M11, ↓gR_M12, ↓gR_M14, ↓gR_M15, ↓gR_M16, ↓gR_M17, ↓gR_M18, ↓gR_M19, ↓gR_M20, ↓gR_M21, ↓gR_M36, ↓gR_M37, ↓gR_M38, ↓gR_M39, ↓rd_M1, ↓rd_M2, ↓rd_M3, ↓rd_M4, ↓rd_M5, ↓rd_M6, ↓rd_M7, ↓rd_M8, ↓rd_M9, ↓rd_M10, ↓rd_M11, ↓rd_M12, ↓rd_M13, ↓rd_M14, ↓rd_M15, ↓rd_M16, ↓rd_M17, ↓rd_M18, ↓rd_M19, ↓wr_M1, ↓wr_M2, ↓wr_M3, ↓wr_M4, ↓wr_M5, ↓wr_M6, ↓wr_M7, ↓wr_M8, ↓wr_M9, ↓wr_M10, ↓wr_M11, ↓wr_M12, ↓wr_M13, ↓wr_M14, ↓wr_M15, ↓wr_M16, ↓wr_M17, ↓wr_M18, ↓wr_M19, pL_H, pV_M1, pV_M2, pV_M3, pV_M4, pV_M5, pV_M6, pV_M13, pV_M22, pV_M23, pV_M24, pV_M25, pV_M27, pV_M28, pV_M29, pV_M30, pV_M31, pV_M32, pV_M33, pV_M34, pV_M35, pV_M40, pV_M41, pV_M42, pV_M43, rd_M1, rd_M2, rd_M3, rd_M4, rd_M5, rd_M6, rd_M7, rd_M8, rd_M9, rd_M10, rd_M11, rd_M12, rd_M13, rd_M14, rd_M15, rd_M16, rd_M17, rd_M18, rd_M19, wr_M1, wr_M2, wr_M3, wr_M4, wr_M5, wr_M6, wr_M7, wr_M8, wr_M9, wr_M10, wr_M11, wr_M12, wr_M13, wr_M14, wr_M15, wr_M16, wr_M17, wr_M18, wr_M19, J_l, J_neg, J_add, J_sub, J_mul, J_lt, J_le, J_eq, J_div2, J_rem2, J_shl1, J_orp, J_or, J_and, J_shr, J_ushr, J_max, J_min, J_abs, J_b0, ↓b0_ite, ↓b0_ite2, b0_ite, bI_r, bV_r, b01_ite, ite_true, ite_false, rZ_b, K_l, J_long, M_in, if_pos, xp]
      have hno : ∀ v, ¬(0 < SN G n c ∧ lbl (R c).1 c < 0 ∧ 0 ≤ ff (whyP (LO G n) (LN G n) (R c).2.1 wd hg c)) → ∃ m', qM_labels_4 N y (J (R c).2.2) (J (c + 1)) (hi y TM g w (o22 u v)) = rI (J (R 1600).2.2) (hi y TM g w m') ∧ (∀ o, o ≠ 0 → o ≠ 3 → o ≠ 15 → m' o = m o) ∧ (∀ j, j ≠ 22 → m' 0 j = m 0 j) ∧ LabM G wd hg n (R 1600).1 (R 1600).2.1 m' := by
        intro v hx
        rw [if_neg hx] at eRs
        have := ih (c + 1, o22 u v) ⟨⟨by show 0 ≤ c + 1; omega, by show c + 1 ≤ 1600; omega⟩, fun o o1 o2 o3 => by show o22 u v o = m o; rw [o22_ne o1, hu o o1 o2 o3], fun j hj => by show o22 u v 0 j = m 0 j; rw [o22_0 hj, hu0 j hj], by show LabM G wd hg n (R (c + 1)).1 (R (c + 1)).2.1 (o22 u v); rw [eRs]; exact hIu.o⟩ (by show 1600 - (c + 1) < 1600 - c; omega)
        simp only [eRs] at this
        exact this
      have hno0 := fun hx => hno (u 0 22) hx
      rw [o22_self] at hno0
      by_cases hpl : 0 < SN G n c
      · rw [if_pos hpl]
        simp (disch := omega) only [↓isO_M, ↓gL_H, ↓pL_H, ↓gI_M1, ↓gI_M2, ↓gI_M3, ↓gI_M4, ↓gI_M5, ↓gI_M6, ↓gI_M13, ↓gI_M22, ↓gI_M23, ↓gI_M24, ↓gI_M25, ↓gI_M27, ↓gI_M28, ↓gI_M29, ↓gI_M30, ↓gI_M31, ↓gI_M32, ↓gI_M33, ↓gI_M34, ↓gI_M35, ↓gI_M40, ↓gI_M41, ↓gI_M42, ↓gI_M43, ↓pV_M1, ↓pV_M2, ↓pV_M3, ↓pV_M4, ↓pV_M5, ↓pV_M6, ↓pV_M13, ↓pV_M22, ↓pV_M23, ↓pV_M24, ↓pV_M25, ↓pV_M27, ↓pV_M28, ↓pV_M29, ↓pV_M30, ↓pV_M31, ↓pV_M32, ↓pV_M33, ↓pV_M34, ↓pV_M35, ↓pV_M40, ↓pV_M41, ↓pV_M42, ↓pV_M43, ↓gR_M0, ↓gR_M7, ↓gR_M8, ↓gR_M9, ↓gR_M10, ↓gR_M11, ↓gR_M12, ↓gR_M14, ↓gR_M15, ↓gR_M16, ↓gR_M17, ↓gR_M18, ↓gR_M19, ↓gR_M20, ↓gR_M21, ↓gR_M36, ↓gR_M37, ↓gR_M38, ↓gR_M39, ↓rd_M1, ↓rd_M2, ↓rd_M3, ↓rd_M4, ↓rd_M5, ↓rd_M6, ↓rd_M7, ↓rd_M8, ↓rd_M9, ↓rd_M10, ↓rd_M11, ↓rd_M12, ↓rd_M13, ↓rd_M14, ↓rd_M15, ↓rd_M16, ↓rd_M17, ↓rd_M18, ↓rd_M19, ↓wr_M1, ↓wr_M2, ↓wr_M3, ↓wr_M4, ↓wr_M5, ↓wr_M6, ↓wr_M7, ↓wr_M8, ↓wr_M9, ↓wr_M10, ↓wr_M11, ↓wr_M12, ↓wr_M13, ↓wr_M14, ↓wr_M15, ↓wr_M16, ↓wr_M17, ↓wr_M18, ↓wr_M19, pL_H, pV_M1, pV_M2, pV_M3, pV_M4, pV_M5, pV_M6, pV_M13, pV_M22, pV_M23, pV_M24, pV_M25, pV_M27, pV_M28, pV_M29, pV_M30, pV_M31, pV_M32, pV_M33, pV_M34, pV_M35, pV_M40, pV_M41, pV_M42, pV_M43, rd_M1, rd_M2, rd_M3, rd_M4, rd_M5, rd_M6, rd_M7, rd_M8, rd_M9, rd_M10, rd_M11, rd_M12, rd_M13, rd_M14, rd_M15, rd_M16, rd_M17, rd_M18, rd_M19, wr_M1, wr_M2, wr_M3, wr_M4, wr_M5, wr_M6, wr_M7, wr_M8, wr_M9, wr_M10, wr_M11, wr_M12, wr_M13, wr_M14, wr_M15, wr_M16, wr_M17, wr_M18, wr_M19, J_l, J_neg, J_add, J_sub, J_mul, J_lt, J_le, J_eq, J_div2, J_rem2, J_shl1, J_orp, J_or, J_and, J_shr, J_ushr, J_max, J_min, J_abs, J_b0, ↓b0_ite, ↓b0_ite2, b0_ite, bI_r, bV_r, b01_ite, ite_true, ite_false, rZ_b, K_l, J_long, M_in, xl]
        by_cases hneg : lbl (R c).1 c < 0
        · rw [if_pos hneg]
          obtain ⟨v, x1⟩ := M_firstFree (y := y) (g := g) (w := w) (m := u) (c := c) ⟨c1, hc⟩ (hIu.wi hz)
          have ex : ff (whyM u c) = ff (whyP (LO G n) (LN G n) (R c).2.1 wd hg c) := ff_congr fun p _ _ => hIu.why hz ⟨c1, hc⟩
          rw [ex] at x1
          have fb := ff_bd (f := whyP (LO G n) (LN G n) (R c).2.1 wd hg c)
          simp (disch := omega) only [↓isO_M, ↓gL_H, ↓pL_H, ↓gI_M1, ↓gI_M2, ↓gI_M3, ↓gI_M4, ↓gI_M5, ↓gI_M6, ↓gI_M13, ↓gI_M22, ↓gI_M23, ↓gI_M24, ↓gI_M25, ↓gI_M27, ↓gI_M28, ↓gI_M29, ↓gI_M30, ↓gI_M31, ↓gI_M32, ↓gI_M33, ↓gI_M34, ↓gI_M35, ↓gI_M40, ↓gI_M41, ↓gI_M42, ↓gI_M43, ↓pV_M1, ↓pV_M2, ↓pV_M3, ↓pV_M4, ↓pV_M5, ↓pV_M6, ↓pV_M13, ↓pV_M22, ↓pV_M23, ↓pV_M24, ↓pV_M25, ↓pV_M27, ↓pV_M28, ↓pV_M29, ↓pV_M30, ↓pV_M31, ↓pV_M32, ↓pV_M33, ↓pV_M34, ↓pV_M35, ↓pV_M40, ↓pV_M41, ↓pV_M42, ↓pV_M43, ↓gR_M0, ↓gR_M7, ↓gR_M8, ↓gR_M9, ↓gR_M10, ↓gR_M11, ↓gR_M12, ↓gR_M14, ↓gR_M15, ↓gR_M16, ↓gR_M17, ↓gR_M18, ↓gR_M19, ↓gR_M20, ↓gR_M21, ↓gR_M36, ↓gR_M37, ↓gR_M38, ↓gR_M39, ↓rd_M1, ↓rd_M2, ↓rd_M3, ↓rd_M4, ↓rd_M5, ↓rd_M6, ↓rd_M7, ↓rd_M8, ↓rd_M9, ↓rd_M10, ↓rd_M11, ↓rd_M12, ↓rd_M13, ↓rd_M14, ↓rd_M15, ↓rd_M16, ↓rd_M17, ↓rd_M18, ↓rd_M19, ↓wr_M1, ↓wr_M2, ↓wr_M3, ↓wr_M4, ↓wr_M5, ↓wr_M6, ↓wr_M7, ↓wr_M8, ↓wr_M9, ↓wr_M10, ↓wr_M11, ↓wr_M12, ↓wr_M13, ↓wr_M14, ↓wr_M15, ↓wr_M16, ↓wr_M17, ↓wr_M18, ↓wr_M19, pL_H, pV_M1, pV_M2, pV_M3, pV_M4, pV_M5, pV_M6, pV_M13, pV_M22, pV_M23, pV_M24, pV_M25, pV_M27, pV_M28, pV_M29, pV_M30, pV_M31, pV_M32, pV_M33, pV_M34, pV_M35, pV_M40, pV_M41, pV_M42, pV_M43, rd_M1, rd_M2, rd_M3, rd_M4, rd_M5, rd_M6, rd_M7, rd_M8, rd_M9, rd_M10, rd_M11, rd_M12, rd_M13, rd_M14, rd_M15, rd_M16, rd_M17, rd_M18, rd_M19, wr_M1, wr_M2, wr_M3, wr_M4, wr_M5, wr_M6, wr_M7, wr_M8, wr_M9, wr_M10, wr_M11, wr_M12, wr_M13, wr_M14, wr_M15, wr_M16, wr_M17, wr_M18, wr_M19, J_l, J_neg, J_add, J_sub, J_mul, J_lt, J_le, J_eq, J_div2, J_rem2, J_shl1, J_orp, J_or, J_and, J_shr, J_ushr, J_max, J_min, J_abs, J_b0, ↓b0_ite, ↓b0_ite2, b0_ite, bI_r, bV_r, b01_ite, ite_true, ite_false, rZ_b, K_l, J_long, M_in, x1]
          by_cases hf : ff (whyP (LO G n) (LN G n) (R c).2.1 wd hg c) < 0
          · rw [if_pos hf]
            exact hno v (by omega)
          · rw [if_neg hf]
            have hcond : 0 < SN G n c ∧ lbl (R c).1 c < 0 ∧ 0 ≤ ff (whyP (LO G n) (LN G n) (R c).2.1 wd hg c) := ⟨hpl, hneg, by omega⟩
            rw [if_pos hcond] at eRs
            have hff := ff_free hcond.2.2
            have hfr := why_free hff.2
            have hLc := LN_pos (c := c) hz.lb hz.2.2.1.1 hpl
            have e14 : o22 u v 14 c = LN G n c := by rw [o22_ne (by decide)]; exact f14
            have y1 := M_gets (y := y) (g := g) (w := w) (m := o22 u v) (c := c) (p := ff (whyP (LO G n) (LN G n) (R c).2.1 wd hg c)) hz.1 hz.2.1 ⟨c1, hc⟩ hff.1 (by omega) (by rw [e14]; exact hfr.1)
            rw [e14, o22_ne (by decide), o22_ne (by decide), hIu.2.2.1, hIu.2.2.2.1] at y1
            simp (disch := omega) only [↓isO_M, ↓gL_H, ↓pL_H, ↓gI_M1, ↓gI_M2, ↓gI_M3, ↓gI_M4, ↓gI_M5, ↓gI_M6, ↓gI_M13, ↓gI_M22, ↓gI_M23, ↓gI_M24, ↓gI_M25, ↓gI_M27, ↓gI_M28, ↓gI_M29, ↓gI_M30, ↓gI_M31, ↓gI_M32, ↓gI_M33, ↓gI_M34, ↓gI_M35, ↓gI_M40, ↓gI_M41, ↓gI_M42, ↓gI_M43, ↓pV_M1, ↓pV_M2, ↓pV_M3, ↓pV_M4, ↓pV_M5, ↓pV_M6, ↓pV_M13, ↓pV_M22, ↓pV_M23, ↓pV_M24, ↓pV_M25, ↓pV_M27, ↓pV_M28, ↓pV_M29, ↓pV_M30, ↓pV_M31, ↓pV_M32, ↓pV_M33, ↓pV_M34, ↓pV_M35, ↓pV_M40, ↓pV_M41, ↓pV_M42, ↓pV_M43, ↓gR_M0, ↓gR_M7, ↓gR_M8, ↓gR_M9, ↓gR_M10, ↓gR_M11, ↓gR_M12, ↓gR_M14, ↓gR_M15, ↓gR_M16, ↓gR_M17, ↓gR_M18, ↓gR_M19, ↓gR_M20, ↓gR_M21, ↓gR_M36, ↓gR_M37, ↓gR_M38, ↓gR_M39, ↓rd_M1, ↓rd_M2, ↓rd_M3, ↓rd_M4, ↓rd_M5, ↓rd_M6, ↓rd_M7, ↓rd_M8, ↓rd_M9, ↓rd_M10, ↓rd_M11, ↓rd_M12, ↓rd_M13, ↓rd_M14, ↓rd_M15, ↓rd_M16, ↓rd_M17, ↓rd_M18, ↓rd_M19, ↓wr_M1, ↓wr_M2, ↓wr_M3, ↓wr_M4, ↓wr_M5, ↓wr_M6, ↓wr_M7, ↓wr_M8, ↓wr_M9, ↓wr_M10, ↓wr_M11, ↓wr_M12, ↓wr_M13, ↓wr_M14, ↓wr_M15, ↓wr_M16, ↓wr_M17, ↓wr_M18, ↓wr_M19, pL_H, pV_M1, pV_M2, pV_M3, pV_M4, pV_M5, pV_M6, pV_M13, pV_M22, pV_M23, pV_M24, pV_M25, pV_M27, pV_M28, pV_M29, pV_M30, pV_M31, pV_M32, pV_M33, pV_M34, pV_M35, pV_M40, pV_M41, pV_M42, pV_M43, rd_M1, rd_M2, rd_M3, rd_M4, rd_M5, rd_M6, rd_M7, rd_M8, rd_M9, rd_M10, rd_M11, rd_M12, rd_M13, rd_M14, rd_M15, rd_M16, rd_M17, rd_M18, rd_M19, wr_M1, wr_M2, wr_M3, wr_M4, wr_M5, wr_M6, wr_M7, wr_M8, wr_M9, wr_M10, wr_M11, wr_M12, wr_M13, wr_M14, wr_M15, wr_M16, wr_M17, wr_M18, wr_M19, J_l, J_neg, J_add, J_sub, J_mul, J_lt, J_le, J_eq, J_div2, J_rem2, J_shl1, J_orp, J_or, J_and, J_shr, J_ushr, J_max, J_min, J_abs, J_b0, ↓b0_ite, ↓b0_ite2, b0_ite, bI_r, bV_r, b01_ite, ite_true, ite_false, rZ_b, K_l, J_long, M_in, y1]
            generalize hU : rs (rs (o22 u v) 3 (ru (R c).1 (184 + c) (ff (whyP (LO G n) (LN G n) (R c).2.1 wd hg c)))) 15 (pnt (R c).2.1 (fr c (ff (whyP (LO G n) (LN G n) (R c).2.1 wd hg c)) (LN G n c)) (LN G n c) c) = u'
            have k0 : ∀ o, o ≠ 0 → o ≠ 3 → o ≠ 15 → u' o = u o := fun o o1 o2 o3 => by rw [← hU, rs_ne o3, rs_ne o2, o22_ne o1]
            have k1 : ∀ j, j ≠ 22 → u' 0 j = u 0 j := fun j hj => by rw [← hU, rs_ne (by decide), rs_ne (by decide), o22_0 hj]
            have := ih (c + 1, u') ⟨⟨by show 0 ≤ c + 1; omega, by show c + 1 ≤ 1600; omega⟩, fun o o1 o2 o3 => by show u' o = m o; rw [k0 o o1 o2 o3, hu o o1 o2 o3], fun j hj => by show u' 0 j = m 0 j; rw [k1 j hj, hu0 j hj], by
              show LabM G wd hg n (R (c + 1)).1 (R (c + 1)).2.1 u'
              have ivn := inv (c + 1) (by omega) (by omega)
              rw [eRs] at ivn ⊢
              refine ⟨by rw [k1 3 (by decide), k1 4 (by decide)]; exact hIu.1, by rw [k0 10 (by decide) (by decide) (by decide), k0 12 (by decide) (by decide) (by decide), k0 14 (by decide) (by decide) (by decide)]; exact hIu.2.1, ?_, ?_, ivn.1, ivn.2.1⟩
              · rw [← hU, rs_ne (by decide), rs_same]
              · rw [← hU, rs_same]⟩ (by show 1600 - (c + 1) < 1600 - c; omega)
            simp only [eRs] at this
            exact this
        · rw [if_neg hneg]
          try simp (disch := omega) only [J_l, J_neg, J_add, J_sub, J_mul, J_lt, J_le, J_eq, J_div2, J_rem2, J_shl1, J_orp, J_or, J_and, J_shr, J_ushr, J_max, J_min, J_abs, J_b0, ↓b0_ite, ↓b0_ite2, b0_ite, bI_r, bV_r, b01_ite, ite_true, ite_false, rZ_b, K_l, J_long, M_in, if_pos]
          exact hno0 (fun hx => hneg hx.2.1)
      · rw [if_neg hpl]
        try simp (disch := omega) only [J_l, J_neg, J_add, J_sub, J_mul, J_lt, J_le, J_eq, J_div2, J_rem2, J_shl1, J_orp, J_or, J_and, J_shr, J_ushr, J_max, J_min, J_abs, J_b0, ↓b0_ite, ↓b0_ite2, b0_ite, bI_r, bV_r, b01_ite, ite_true, ite_false, rZ_b, K_l, J_long, M_in, if_pos]
        exact hno0 (fun hx => hpl hx.1)
    · have e : c = 1600 := by omega
      subst e
      simp (disch := omega) only [J_l, J_neg, J_add, J_sub, J_mul, J_lt, J_le, J_eq, J_div2, J_rem2, J_shl1, J_orp, J_or, J_and, J_shr, J_ushr, J_max, J_min, J_abs, J_b0, ↓b0_ite, ↓b0_ite2, b0_ite, bI_r, bV_r, b01_ite, ite_true, ite_false, rZ_b, K_l, J_long, M_in, if_neg]
      exact ⟨u, rfl, hu, hu0, hIu⟩) (0, m) ⟨⟨by show (0 : Int) ≤ 0; omega, by show (0 : Int) ≤ 1600; omega⟩, fun o _ _ _ => rfl, fun j _ => rfl, by show LabM G wd hg n (R 0).1 (R 0).2.1 m; rw [← hR]; exact hI⟩ (by show (1600 : Int) - 0 < 20000; omega)
  simp only [hR0] at key
  exact key
end LP
