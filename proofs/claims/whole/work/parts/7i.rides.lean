/-! rides: the class goes by levels -/
section RD
variable {z y : Nat} {g g' : XH} {w w' : Int64} {s s' s0 s1 s2 m m' m0 m1 m2 : CT} {G W W' V W1 row row' r0 nm lo lg sn f : Int → Int} {wd hg mt c i j l n p v t k x xx yy N q o to : Int} {a b : Nat} {h : XH}
variable {k r u e d b' c' c0 nq x' : Int} {F F' Q Q' qq : Int → Int}
def adj (W : Int → Int) (n b c : Int) : Prop := ∃ l t, (0 ≤ l ∧ l < n) ∧ (0 ≤ t ∧ t + 1 < cT W l) ∧ ((sc W l t = b ∧ sc W l (t + 1) = c) ∨ (sc W l (t + 1) = b ∧ sc W l t = c))
def Rc (W : Int → Int) (n c0 : Int) : Nat → Int → Prop
  | 0, c => c = c0
  | k + 1, c => ∃ b, Rc W n c0 k b ∧ adj W n b c
/-- the answer -/
def SpA (W : Int → Int) (n c0 t a : Int) : Prop := (a = -2 ∧ ∀ d : Nat, ¬Rc W n c0 d t) ∨ (0 ≤ a ∧ Rc W n c0 a.toNat t ∧ ∀ d : Nat, Rc W n c0 d t → a ≤ d)
theorem SpA_uniq {a a' : Int} (h1 : SpA W n c0 t a) (h2 : SpA W n c0 t a') : a = a' := by
  rcases h1 with ⟨e1, f1⟩ | ⟨e1, f1, g1⟩
  · rcases h2 with ⟨e2, f2⟩ | ⟨e2, f2, g2⟩
    · omega
    · exact absurd f2 (f1 _)
  · rcases h2 with ⟨e2, f2⟩ | ⟨e2, f2, g2⟩
    · exact absurd f1 (f2 _)
    · have x1 := g1 _ f2
      have x2 := g2 _ f1
      omega
theorem adj_in (hLG : ∀ l, 0 ≤ l → l < n → LG W l) (hn : 0 ≤ n) (h : adj W n c c') : ((0 ≤ c ∧ c < 1600) ∧ 0 < SN W n c) ∧ (0 ≤ c' ∧ c' < 1600) ∧ 0 < SN W n c' := by
  obtain ⟨l, t, hl, ht, h⟩ := h
  have hb : ∀ l, 0 ≤ l → l < n → LB W l := fun l a b => (hLG l a b).1
  have a1 := sc_in (hLG l hl.1 hl.2) ht.1 (show t < cT W l by omega)
  have a2 := sc_in (hLG l hl.1 hl.2) (show 0 ≤ t + 1 by omega) ht.2
  have b1 := sc_place hb hl (show 0 ≤ t ∧ t < cT W l by omega)
  have b2 := sc_place hb hl (show 0 ≤ t + 1 ∧ t + 1 < cT W l by omega)
  rcases h with ⟨e1, e2⟩ | ⟨e1, e2⟩
  · rw [e1] at a1 b1; rw [e2] at a2 b2
    exact ⟨⟨a1, b1⟩, a2, b2⟩
  · rw [e1] at a2 b2; rw [e2] at a1 b1
    exact ⟨⟨a2, b2⟩, a1, b1⟩
theorem cnt_ru (hc : 0 ≤ c ∧ c < 1600) (h0 : F c < 0) (hv : 0 ≤ v) : cnt (fun x => 0 ≤ ru F c v x) 1600 = cnt (fun x => 0 ≤ F x) 1600 + 1 := by
  rw [← cnt_split (P := fun x => 0 ≤ F x) (Q := fun x => c = x) (by omega) (fun x x0 x1 => by
    rw [ru_at]
    by_cases e : x = c
    · rw [if_pos e]; exact ⟨fun _ => Or.inr e.symm, fun _ => hv⟩
    · rw [if_neg e]; exact ⟨fun q => Or.inl q, fun q => q.elim id (fun q => absurd q.symm e)⟩) (fun x x0 x1 q1 q2 => by rw [← q2] at q1; omega)]
  have h1 : cnt (fun x => c = x) 1600 = 1 := sm_delta hc
  rw [h1]
/-! the class's rows -/
def FVq (W : Int → Int) (n : Int) (q F : Int → Int) : Prop := ∀ l t, (0 ≤ l ∧ l < n) → (0 ≤ t ∧ t < cT W l) → q (l * 20 + t) = F (sc W l t)
def TvE (s : CT) (W : Int → Int) (n : Int) : Prop := (0 ≤ n ∧ n ≤ 8) ∧ (∀ l, 0 ≤ l → l < n → LG W l) ∧ s 6 3 = n ∧ (∀ l, 0 ≤ l → l < n → LV s (11 + 3 * l.toNat) W l) ∧ BdL W s n
theorem TvE_q (h : TvE s W n) : TvE (rs s 309 qq) W n := by
  obtain ⟨hn, hG, h1, h2, h3⟩ := h
  refine ⟨hn, hG, by rw [rs_ne (by decide)]; exact h1, fun l l0 l1 => ?_, ?_⟩
  · have := h2 l l0 l1
    unfold LV at *
    rw [rs_ne (by omega), rs_ne (by omega), rs_ne (by omega)]
    exact this
  · unfold BdL at *
    rw [rs_ne (by decide), rs_ne (by decide), rs_ne (by decide), rs_ne (by decide), rs_ne (by decide), rs_ne (by decide)]
    exact h3
theorem TvE.lb (h : TvE s W n) : ∀ l, 0 ≤ l → l < n → LB W l := fun l a b => (h.2.1 l a b).1
theorem TvE.ln (h : TvE s W n) (hl : 0 ≤ l ∧ l < n) : isLn TD (11 + 3 * l.toNat) ∧ s (11 + 3 * l.toNat) 2 = cT W l := ⟨isLn_now (by have := h.1; omega), (h.2.2.2.1 l hl.1 hl.2).2.1⟩
theorem TvE.cell (h : TvE s W n) (hl : 0 ≤ l ∧ l < n) (ht : 0 ≤ t ∧ t < cT W l) : qB_stationCell (z + 300) (J l) (J t) (hi z TD g w s) = rI (J (sc W l t)) (hi z TD g w s) := C_stationCell h.2.2.2.2 h.1 h.lb hl ht
def RI (W : Int → Int) (n : Int) (F : Int → Int) (c v l t : Int) (q : Int → Int) : Prop := ∀ l' t', (0 ≤ l' ∧ l' < n) → (0 ≤ t' ∧ t' < cT W l') → q (l' * 20 + t') = if (l' < l ∨ (l' = l ∧ t' < t)) ∧ sc W l' t' = c then v else F (sc W l' t')
theorem C_reach15 {k3 : Nat → Nat → Nat → Int32 → Int32 → Int32 → XH → XR} (hE : TvE s W n) (hc : 0 ≤ c ∧ c < 1600) (hl : 0 ≤ l ∧ l < n) (hR : RI W n F c v l 0 qq) : ∃ q', qTv_reach_15 k3 LF (z + 308) (z + 6) (z + 300) (J c) (J v) (J l) (J 0) (hi z TD g w (rs s 309 qq)) = k3 (z + 308) (z + 6) (z + 300) (J c) (J v) (J (l + 1)) (hi z TD g w (rs s 309 q')) ∧ RI W n F c v (l + 1) 0 q' := by
  have hb := hE.lb l hl.1 hl.2
  have bt := hb.2.1
  have hn := hE.1
  refine loopI (S := Int × (Int → Int)) (fun N q => qTv_reach_15 k3 N (z + 308) (z + 6) (z + 300) (J c) (J v) (J l) (J q.1) (hi z TD g w (rs s 309 q.2))) (fun X => ∃ q', X = k3 (z + 308) (z + 6) (z + 300) (J c) (J v) (J (l + 1)) (hi z TD g w (rs s 309 q')) ∧ RI W n F c v (l + 1) 0 q') (fun q => (0 ≤ q.1 ∧ q.1 ≤ cT W l) ∧ RI W n F c v l q.1 q.2) (fun q => cT W l - q.1) (by intro q hq; omega) (fun N q hq ih => ?_) (0, qq) ⟨by show (0 : Int) ≤ 0 ∧ 0 ≤ cT W l; omega, hR⟩ (by show cT W l - 0 < 20000; omega)
  obtain ⟨t, p⟩ := q
  obtain ⟨ht, hR⟩ := hq
  change 0 ≤ t ∧ t ≤ cT W l at ht
  change RI W n F c v l t p at hR
  have hE2 := TvE_q (qq := p) hE
  obtain ⟨hLn, x2⟩ := hE2.ln hl
  show ∃ q', qTv_reach_15_b k3 (qTv_reach_15 k3 N) (z + 308) (z + 6) (z + 300) (J c) (J v) (J l) (J t) (hi z TD g w (rs s 309 p)) = _ ∧ _
  unfold qTv_reach_15_b
  simp (disch := first | assumption | omega) only [↓gR_D0, ↓gR_D1, ↓gR_D2, ↓gR_D3, ↓gR_D4, ↓gR_D5, ↓gR_D6, ↓gR_D7, ↓gR_D8, ↓gR_D9, ↓gR_D10, ↓gI_D11, ↓pV_D11, ↓isO_D, ↓gI_T0, ↓pV_T0, ↓gR_T1, ↓isO_T, ↓rd_T2, ↓wr_T2, ↓gI_U0, ↓pV_U0, ↓gR_U1, ↓isO_U, ↓rd_U2, ↓wr_U2, ↓gI_Ps0, ↓pV_Ps0, ↓gI_Ps1, ↓pV_Ps1, ↓gI_Ps2, ↓pV_Ps2, ↓gI_Ps3, ↓pV_Ps3, ↓gI_Ps4, ↓pV_Ps4, ↓isO_Ps, ↓gI_N0, ↓pV_N0, ↓gI_N1, ↓pV_N1, ↓gI_N2, ↓pV_N2, ↓gI_N3, ↓pV_N3, ↓gR_N4, ↓gR_N5, ↓isO_N, ↓rd_NL, ↓gI_NB0, ↓pV_NB0, ↓gR_NB1, ↓gR_NB2, ↓isO_NB, ↓rd_NC, ↓wr_NC, ↓ln_NC, ↓rd_NP, ↓wr_NP, ↓ln_NP, ↓gI_V0, ↓pV_V0, ↓gI_V1, ↓pV_V1, ↓gI_V2, ↓pV_V2, ↓gI_V3, ↓pV_V3, ↓gR_V4, ↓gR_V5, ↓isO_V, ↓rd_VL, ↓gI_VB0, ↓pV_VB0, ↓gR_VB1, ↓gR_VB2, ↓isO_VB, ↓rd_VC, ↓wr_VC, ↓ln_VC, ↓rd_VP, ↓wr_VP, ↓ln_VP, ↓rd_SL, ↓rd_KP, ↓wr_KP, ↓gI_H0, ↓pV_H0, ↓gI_H1, ↓pV_H1, ↓gR_H2, ↓isO_H, ↓rd_HP, ↓gI_B0, ↓pV_B0, ↓gI_B1, ↓pV_B1, ↓gR_B2, ↓gR_B3, ↓gR_B4, ↓gR_B5, ↓gR_B6, ↓gR_B7, ↓gR_B8, ↓isO_B, ↓rd_B301, ↓wr_B301, ↓ln_B301, ↓rd_B302, ↓wr_B302, ↓ln_B302, ↓rd_B303, ↓wr_B303, ↓ln_B303, ↓rd_B304, ↓wr_B304, ↓ln_B304, ↓rd_B305, ↓wr_B305, ↓ln_B305, ↓rd_B306, ↓wr_B306, ↓ln_B306, ↓rd_B307, ↓wr_B307, ↓ln_B307, ↓gR_Tv, ↓isO_Tv, ↓rd_Tv9, ↓wr_Tv9, ↓ln_Tv9, pV_D11, pV_T0, rd_T2, wr_T2, pV_U0, rd_U2, wr_U2, pV_Ps0, pV_Ps1, pV_Ps2, pV_Ps3, pV_Ps4, pV_N0, pV_N1, pV_N2, pV_N3, rd_NL, pV_NB0, rd_NC, wr_NC, rd_NP, wr_NP, pV_V0, pV_V1, pV_V2, pV_V3, rd_VL, pV_VB0, rd_VC, wr_VC, rd_VP, wr_VP, rd_SL, rd_KP, wr_KP, pV_H0, pV_H1, rd_HP, pV_B0, pV_B1, rd_B301, wr_B301, rd_B302, wr_B302, rd_B303, wr_B303, rd_B304, wr_B304, rd_B305, wr_B305, rd_B306, wr_B306, rd_B307, wr_B307, rd_Tv9, wr_Tv9, ↓isO_L, ↓gI_L0, ↓pV_L0, ↓gI_L1, ↓pV_L1, ↓gI_L2, ↓pV_L2, ↓gI_L3, ↓pV_L3, ↓gR_L4, ↓rd_L4, ↓wr_L4, ↓gR_L5, ↓rd_L5, ↓wr_L5, pV_L0, pV_L1, pV_L2, pV_L3, rd_L4, wr_L4, rd_L5, wr_L5, J_l, J_neg, J_add, J_sub, J_mul, J_lt, J_le, J_eq, J_div2, J_rem2, J_shl1, J_orp, J_or, J_and, J_shr, J_ushr, J_max, J_min, J_abs, J_b0, ↓b0_ite, ↓b0_ite2, b0_ite, bI_r, bV_r, b01_ite, ite_true, ite_false, rZ_b, K_l, J_long, M_in, x2]
  by_cases h0 : t < cT W l
  · have x1 := hE2.cell (z := z) (g := g) (w := w) hl ⟨ht.1, h0⟩
    have hs := sc_in (hE.2.1 l hl.1 hl.2) ht.1 h0
    rw [if_pos h0]
    simp (disch := first | assumption | omega) only [↓gR_D0, ↓gR_D1, ↓gR_D2, ↓gR_D3, ↓gR_D4, ↓gR_D5, ↓gR_D6, ↓gR_D7, ↓gR_D8, ↓gR_D9, ↓gR_D10, ↓gI_D11, ↓pV_D11, ↓isO_D, ↓gI_T0, ↓pV_T0, ↓gR_T1, ↓isO_T, ↓rd_T2, ↓wr_T2, ↓gI_U0, ↓pV_U0, ↓gR_U1, ↓isO_U, ↓rd_U2, ↓wr_U2, ↓gI_Ps0, ↓pV_Ps0, ↓gI_Ps1, ↓pV_Ps1, ↓gI_Ps2, ↓pV_Ps2, ↓gI_Ps3, ↓pV_Ps3, ↓gI_Ps4, ↓pV_Ps4, ↓isO_Ps, ↓gI_N0, ↓pV_N0, ↓gI_N1, ↓pV_N1, ↓gI_N2, ↓pV_N2, ↓gI_N3, ↓pV_N3, ↓gR_N4, ↓gR_N5, ↓isO_N, ↓rd_NL, ↓gI_NB0, ↓pV_NB0, ↓gR_NB1, ↓gR_NB2, ↓isO_NB, ↓rd_NC, ↓wr_NC, ↓ln_NC, ↓rd_NP, ↓wr_NP, ↓ln_NP, ↓gI_V0, ↓pV_V0, ↓gI_V1, ↓pV_V1, ↓gI_V2, ↓pV_V2, ↓gI_V3, ↓pV_V3, ↓gR_V4, ↓gR_V5, ↓isO_V, ↓rd_VL, ↓gI_VB0, ↓pV_VB0, ↓gR_VB1, ↓gR_VB2, ↓isO_VB, ↓rd_VC, ↓wr_VC, ↓ln_VC, ↓rd_VP, ↓wr_VP, ↓ln_VP, ↓rd_SL, ↓rd_KP, ↓wr_KP, ↓gI_H0, ↓pV_H0, ↓gI_H1, ↓pV_H1, ↓gR_H2, ↓isO_H, ↓rd_HP, ↓gI_B0, ↓pV_B0, ↓gI_B1, ↓pV_B1, ↓gR_B2, ↓gR_B3, ↓gR_B4, ↓gR_B5, ↓gR_B6, ↓gR_B7, ↓gR_B8, ↓isO_B, ↓rd_B301, ↓wr_B301, ↓ln_B301, ↓rd_B302, ↓wr_B302, ↓ln_B302, ↓rd_B303, ↓wr_B303, ↓ln_B303, ↓rd_B304, ↓wr_B304, ↓ln_B304, ↓rd_B305, ↓wr_B305, ↓ln_B305, ↓rd_B306, ↓wr_B306, ↓ln_B306, ↓rd_B307, ↓wr_B307, ↓ln_B307, ↓gR_Tv, ↓isO_Tv, ↓rd_Tv9, ↓wr_Tv9, ↓ln_Tv9, pV_D11, pV_T0, rd_T2, wr_T2, pV_U0, rd_U2, wr_U2, pV_Ps0, pV_Ps1, pV_Ps2, pV_Ps3, pV_Ps4, pV_N0, pV_N1, pV_N2, pV_N3, rd_NL, pV_NB0, rd_NC, wr_NC, rd_NP, wr_NP, pV_V0, pV_V1, pV_V2, pV_V3, rd_VL, pV_VB0, rd_VC, wr_VC, rd_VP, wr_VP, rd_SL, rd_KP, wr_KP, pV_H0, pV_H1, rd_HP, pV_B0, pV_B1, rd_B301, wr_B301, rd_B302, wr_B302, rd_B303, wr_B303, rd_B304, wr_B304, rd_B305, wr_B305, rd_B306, wr_B306, rd_B307, wr_B307, rd_Tv9, wr_Tv9, J_l, J_neg, J_add, J_sub, J_mul, J_lt, J_le, J_eq, J_div2, J_rem2, J_shl1, J_orp, J_or, J_and, J_shr, J_ushr, J_max, J_min, J_abs, J_b0, ↓b0_ite, ↓b0_ite2, b0_ite, bI_r, bV_r, b01_ite, ite_true, ite_false, rZ_b, K_l, J_long, M_in, x1]
    by_cases h1 : sc W l t = c
    · rw [if_pos h1]
      simp (disch := first | assumption | omega) only [↓gR_D0, ↓gR_D1, ↓gR_D2, ↓gR_D3, ↓gR_D4, ↓gR_D5, ↓gR_D6, ↓gR_D7, ↓gR_D8, ↓gR_D9, ↓gR_D10, ↓gI_D11, ↓pV_D11, ↓isO_D, ↓gI_T0, ↓pV_T0, ↓gR_T1, ↓isO_T, ↓rd_T2, ↓wr_T2, ↓gI_U0, ↓pV_U0, ↓gR_U1, ↓isO_U, ↓rd_U2, ↓wr_U2, ↓gI_Ps0, ↓pV_Ps0, ↓gI_Ps1, ↓pV_Ps1, ↓gI_Ps2, ↓pV_Ps2, ↓gI_Ps3, ↓pV_Ps3, ↓gI_Ps4, ↓pV_Ps4, ↓isO_Ps, ↓gI_N0, ↓pV_N0, ↓gI_N1, ↓pV_N1, ↓gI_N2, ↓pV_N2, ↓gI_N3, ↓pV_N3, ↓gR_N4, ↓gR_N5, ↓isO_N, ↓rd_NL, ↓gI_NB0, ↓pV_NB0, ↓gR_NB1, ↓gR_NB2, ↓isO_NB, ↓rd_NC, ↓wr_NC, ↓ln_NC, ↓rd_NP, ↓wr_NP, ↓ln_NP, ↓gI_V0, ↓pV_V0, ↓gI_V1, ↓pV_V1, ↓gI_V2, ↓pV_V2, ↓gI_V3, ↓pV_V3, ↓gR_V4, ↓gR_V5, ↓isO_V, ↓rd_VL, ↓gI_VB0, ↓pV_VB0, ↓gR_VB1, ↓gR_VB2, ↓isO_VB, ↓rd_VC, ↓wr_VC, ↓ln_VC, ↓rd_VP, ↓wr_VP, ↓ln_VP, ↓rd_SL, ↓rd_KP, ↓wr_KP, ↓gI_H0, ↓pV_H0, ↓gI_H1, ↓pV_H1, ↓gR_H2, ↓isO_H, ↓rd_HP, ↓gI_B0, ↓pV_B0, ↓gI_B1, ↓pV_B1, ↓gR_B2, ↓gR_B3, ↓gR_B4, ↓gR_B5, ↓gR_B6, ↓gR_B7, ↓gR_B8, ↓isO_B, ↓rd_B301, ↓wr_B301, ↓ln_B301, ↓rd_B302, ↓wr_B302, ↓ln_B302, ↓rd_B303, ↓wr_B303, ↓ln_B303, ↓rd_B304, ↓wr_B304, ↓ln_B304, ↓rd_B305, ↓wr_B305, ↓ln_B305, ↓rd_B306, ↓wr_B306, ↓ln_B306, ↓rd_B307, ↓wr_B307, ↓ln_B307, ↓gR_Tv, ↓isO_Tv, ↓rd_Tv9, ↓wr_Tv9, ↓ln_Tv9, pV_D11, pV_T0, rd_T2, wr_T2, pV_U0, rd_U2, wr_U2, pV_Ps0, pV_Ps1, pV_Ps2, pV_Ps3, pV_Ps4, pV_N0, pV_N1, pV_N2, pV_N3, rd_NL, pV_NB0, rd_NC, wr_NC, rd_NP, wr_NP, pV_V0, pV_V1, pV_V2, pV_V3, rd_VL, pV_VB0, rd_VC, wr_VC, rd_VP, wr_VP, rd_SL, rd_KP, wr_KP, pV_H0, pV_H1, rd_HP, pV_B0, pV_B1, rd_B301, wr_B301, rd_B302, wr_B302, rd_B303, wr_B303, rd_B304, wr_B304, rd_B305, wr_B305, rd_B306, wr_B306, rd_B307, wr_B307, rd_Tv9, wr_Tv9, J_l, J_neg, J_add, J_sub, J_mul, J_lt, J_le, J_eq, J_div2, J_rem2, J_shl1, J_orp, J_or, J_and, J_shr, J_ushr, J_max, J_min, J_abs, J_b0, ↓b0_ite, ↓b0_ite2, b0_ite, bI_r, bV_r, b01_ite, ite_true, ite_false, rZ_b, K_l, J_long, M_in, rs_same, rs_ne, rs_rs, ru_same, ru_ne, ne_eq]
      refine ih (t + 1, ru p (l * 20 + t) v) ⟨by show 0 ≤ t + 1 ∧ t + 1 ≤ cT W l; omega, fun l' t' q1 q2 => ?_⟩ (by show cT W l - (t + 1) < cT W l - t; omega)
      have b2 := (hE.lb l' q1.1 q1.2).2.1
      show ru p (l * 20 + t) v (l' * 20 + t') = if (l' < l ∨ (l' = l ∧ t' < t + 1)) ∧ sc W l' t' = c then v else F (sc W l' t')
      by_cases e : l' = l ∧ t' = t
      · rw [e.1, e.2, ru_same, if_pos ⟨Or.inr ⟨rfl, by omega⟩, h1⟩]
      · rw [ru_ne (by omega), hR l' t' q1 q2]
        by_cases e3 : (l' < l ∨ (l' = l ∧ t' < t)) ∧ sc W l' t' = c
        · rw [if_pos e3, if_pos ⟨by omega, e3.2⟩]
        · rw [if_neg e3, if_neg (fun q => e3 ⟨by omega, q.2⟩)]
    · rw [if_neg h1]
      refine ih (t + 1, p) ⟨by show 0 ≤ t + 1 ∧ t + 1 ≤ cT W l; omega, fun l' t' q1 q2 => ?_⟩ (by show cT W l - (t + 1) < cT W l - t; omega)
      show p (l' * 20 + t') = if (l' < l ∨ (l' = l ∧ t' < t + 1)) ∧ sc W l' t' = c then v else F (sc W l' t')
      rw [hR l' t' q1 q2]
      by_cases e : l' = l ∧ t' = t
      · rw [e.1, e.2, if_neg (fun q => h1 q.2), if_neg (fun q => h1 q.2)]
      · by_cases e3 : (l' < l ∨ (l' = l ∧ t' < t)) ∧ sc W l' t' = c
        · rw [if_pos e3, if_pos ⟨by omega, e3.2⟩]
        · rw [if_neg e3, if_neg (fun q => e3 ⟨by omega, q.2⟩)]
  · rw [if_neg h0]
    refine ⟨p, rfl, fun l' t' q1 q2 => ?_⟩
    rw [hR l' t' q1 q2]
    by_cases e : l' = l
    · rw [e] at q2
      by_cases e4 : sc W l' t' = c
      · rw [if_pos ⟨by omega, e4⟩, if_pos ⟨by omega, e4⟩]
      · rw [if_neg (fun q => e4 q.2), if_neg (fun q => e4 q.2)]
    · by_cases e3 : (l' < l ∨ (l' = l ∧ t' < t)) ∧ sc W l' t' = c
      · rw [if_pos e3, if_pos ⟨by omega, e3.2⟩]
      · rw [if_neg e3, if_neg (fun q => e3 ⟨by omega, q.2⟩)]
theorem C_reach (hE : TvE s W n) (hc : 0 ≤ c ∧ c < 1600) (hF : FVq W n qq F) : ∃ q', qTv_reach (z + 308) (z + 6) (z + 300) (J c) (J v) (hi z TD g w (rs s 309 qq)) = rV (hi z TD g w (rs s 309 q')) ∧ FVq W n q' (ru F c v) := by
  have hn := hE.1
  unfold qTv_reach
  refine loopI (S := Int × (Int → Int)) (fun N q => qTv_reach_3 N (z + 308) (z + 6) (z + 300) (J c) (J v) (J q.1) (hi z TD g w (rs s 309 q.2))) (fun X => ∃ q', X = rV (hi z TD g w (rs s 309 q')) ∧ FVq W n q' (ru F c v)) (fun q => (0 ≤ q.1 ∧ q.1 ≤ n) ∧ RI W n F c v q.1 0 q.2) (fun q => n - q.1) (by intro q hq; omega) (fun N q hq ih => ?_) (0, qq) ⟨by show (0 : Int) ≤ 0 ∧ 0 ≤ n; omega, fun l' t' q1 q2 => by
    show qq (l' * 20 + t') = if (l' < 0 ∨ (l' = 0 ∧ t' < 0)) ∧ sc W l' t' = c then v else F (sc W l' t')
    rw [if_neg (by omega)]
    exact hF l' t' q1 q2⟩ (by show n - 0 < 20000; omega)
  obtain ⟨l, p⟩ := q
  obtain ⟨hl, hR⟩ := hq
  change 0 ≤ l ∧ l ≤ n at hl
  change RI W n F c v l 0 p at hR
  have hE2 := TvE_q (qq := p) hE
  have h3 := hE2.2.2.1
  show ∃ q', qTv_reach_3_b (qTv_reach_3 N) (z + 308) (z + 6) (z + 300) (J c) (J v) (J l) (hi z TD g w (rs s 309 p)) = _ ∧ _
  unfold qTv_reach_3_b
  simp (disch := first | assumption | omega) only [↓gR_D0, ↓gR_D1, ↓gR_D2, ↓gR_D3, ↓gR_D4, ↓gR_D5, ↓gR_D6, ↓gR_D7, ↓gR_D8, ↓gR_D9, ↓gR_D10, ↓gI_D11, ↓pV_D11, ↓isO_D, ↓gI_T0, ↓pV_T0, ↓gR_T1, ↓isO_T, ↓rd_T2, ↓wr_T2, ↓gI_U0, ↓pV_U0, ↓gR_U1, ↓isO_U, ↓rd_U2, ↓wr_U2, ↓gI_Ps0, ↓pV_Ps0, ↓gI_Ps1, ↓pV_Ps1, ↓gI_Ps2, ↓pV_Ps2, ↓gI_Ps3, ↓pV_Ps3, ↓gI_Ps4, ↓pV_Ps4, ↓isO_Ps, ↓gI_N0, ↓pV_N0, ↓gI_N1, ↓pV_N1, ↓gI_N2, ↓pV_N2, ↓gI_N3, ↓pV_N3, ↓gR_N4, ↓gR_N5, ↓isO_N, ↓rd_NL, ↓gI_NB0, ↓pV_NB0, ↓gR_NB1, ↓gR_NB2, ↓isO_NB, ↓rd_NC, ↓wr_NC, ↓ln_NC, ↓rd_NP, ↓wr_NP, ↓ln_NP, ↓gI_V0, ↓pV_V0, ↓gI_V1, ↓pV_V1, ↓gI_V2, ↓pV_V2, ↓gI_V3, ↓pV_V3, ↓gR_V4, ↓gR_V5, ↓isO_V, ↓rd_VL, ↓gI_VB0, ↓pV_VB0, ↓gR_VB1, ↓gR_VB2, ↓isO_VB, ↓rd_VC, ↓wr_VC, ↓ln_VC, ↓rd_VP, ↓wr_VP, ↓ln_VP, ↓rd_SL, ↓rd_KP, ↓wr_KP, ↓gI_H0, ↓pV_H0, ↓gI_H1, ↓pV_H1, ↓gR_H2, ↓isO_H, ↓rd_HP, ↓gI_B0, ↓pV_B0, ↓gI_B1, ↓pV_B1, ↓gR_B2, ↓gR_B3, ↓gR_B4, ↓gR_B5, ↓gR_B6, ↓gR_B7, ↓gR_B8, ↓isO_B, ↓rd_B301, ↓wr_B301, ↓ln_B301, ↓rd_B302, ↓wr_B302, ↓ln_B302, ↓rd_B303, ↓wr_B303, ↓ln_B303, ↓rd_B304, ↓wr_B304, ↓ln_B304, ↓rd_B305, ↓wr_B305, ↓ln_B305, ↓rd_B306, ↓wr_B306, ↓ln_B306, ↓rd_B307, ↓wr_B307, ↓ln_B307, ↓gR_Tv, ↓isO_Tv, ↓rd_Tv9, ↓wr_Tv9, ↓ln_Tv9, pV_D11, pV_T0, rd_T2, wr_T2, pV_U0, rd_U2, wr_U2, pV_Ps0, pV_Ps1, pV_Ps2, pV_Ps3, pV_Ps4, pV_N0, pV_N1, pV_N2, pV_N3, rd_NL, pV_NB0, rd_NC, wr_NC, rd_NP, wr_NP, pV_V0, pV_V1, pV_V2, pV_V3, rd_VL, pV_VB0, rd_VC, wr_VC, rd_VP, wr_VP, rd_SL, rd_KP, wr_KP, pV_H0, pV_H1, rd_HP, pV_B0, pV_B1, rd_B301, wr_B301, rd_B302, wr_B302, rd_B303, wr_B303, rd_B304, wr_B304, rd_B305, wr_B305, rd_B306, wr_B306, rd_B307, wr_B307, rd_Tv9, wr_Tv9, J_l, J_neg, J_add, J_sub, J_mul, J_lt, J_le, J_eq, J_div2, J_rem2, J_shl1, J_orp, J_or, J_and, J_shr, J_ushr, J_max, J_min, J_abs, J_b0, ↓b0_ite, ↓b0_ite2, b0_ite, bI_r, bV_r, b01_ite, ite_true, ite_false, rZ_b, K_l, J_long, M_in, h3]
  by_cases h0 : l < n
  · rw [if_pos h0]
    obtain ⟨q', e1, e2⟩ := C_reach15 (z := z) (g := g) (w := w) (k3 := qTv_reach_3 N) hE hc ⟨hl.1, h0⟩ hR
    rw [e1]
    exact ih (l + 1, q') ⟨by show 0 ≤ l + 1 ∧ l + 1 ≤ n; omega, e2⟩ (by show n - (l + 1) < n - l; omega)
  · rw [if_neg h0]
    refine ⟨p, rfl, fun l' t' q1 q2 => ?_⟩
    rw [hR l' t' q1 q2, ru_at]
    by_cases e : sc W l' t' = c
    · rw [if_pos ⟨by omega, e⟩, if_pos e]
    · rw [if_neg (fun q => e q.2), if_neg e]
def vst (F : Int → Int) (c v : Int) : Int → Int := if F c < 0 then ru F c v else F
theorem C_reachStation (hE : TvE s W n) (hl : 0 ≤ l ∧ l < n) (ht : 0 ≤ t ∧ t < cT W l) (hF : FVq W n qq F) (hb : -1 ≤ F (sc W l t) ∧ F (sc W l t) ≤ 2000) : ∃ q', qTv_reachStation (z + 308) (z + 6) (z + 300) (J l) (J t) (J v) (hi z TD g w (rs s 309 qq)) = rI (J (b01 (F (sc W l t) < 0))) (hi z TD g w (rs s 309 q')) ∧ FVq W n q' (vst F (sc W l t) v) := by
  have hn := hE.1
  have bt := (hE.lb l hl.1 hl.2).2.1
  have hE2 := TvE_q (qq := qq) hE
  have x1 := hE2.cell (z := z) (g := g) (w := w) hl ht
  have hs := sc_in (hE.2.1 l hl.1 hl.2) ht.1 ht.2
  have rd : rs s 309 qq 309 (l * 20 + t) = F (sc W l t) := by rw [rs_same]; exact hF l t hl ht
  unfold qTv_reachStation vst
  simp (disch := first | assumption | omega) only [↓gR_D0, ↓gR_D1, ↓gR_D2, ↓gR_D3, ↓gR_D4, ↓gR_D5, ↓gR_D6, ↓gR_D7, ↓gR_D8, ↓gR_D9, ↓gR_D10, ↓gI_D11, ↓pV_D11, ↓isO_D, ↓gI_T0, ↓pV_T0, ↓gR_T1, ↓isO_T, ↓rd_T2, ↓wr_T2, ↓gI_U0, ↓pV_U0, ↓gR_U1, ↓isO_U, ↓rd_U2, ↓wr_U2, ↓gI_Ps0, ↓pV_Ps0, ↓gI_Ps1, ↓pV_Ps1, ↓gI_Ps2, ↓pV_Ps2, ↓gI_Ps3, ↓pV_Ps3, ↓gI_Ps4, ↓pV_Ps4, ↓isO_Ps, ↓gI_N0, ↓pV_N0, ↓gI_N1, ↓pV_N1, ↓gI_N2, ↓pV_N2, ↓gI_N3, ↓pV_N3, ↓gR_N4, ↓gR_N5, ↓isO_N, ↓rd_NL, ↓gI_NB0, ↓pV_NB0, ↓gR_NB1, ↓gR_NB2, ↓isO_NB, ↓rd_NC, ↓wr_NC, ↓ln_NC, ↓rd_NP, ↓wr_NP, ↓ln_NP, ↓gI_V0, ↓pV_V0, ↓gI_V1, ↓pV_V1, ↓gI_V2, ↓pV_V2, ↓gI_V3, ↓pV_V3, ↓gR_V4, ↓gR_V5, ↓isO_V, ↓rd_VL, ↓gI_VB0, ↓pV_VB0, ↓gR_VB1, ↓gR_VB2, ↓isO_VB, ↓rd_VC, ↓wr_VC, ↓ln_VC, ↓rd_VP, ↓wr_VP, ↓ln_VP, ↓rd_SL, ↓rd_KP, ↓wr_KP, ↓gI_H0, ↓pV_H0, ↓gI_H1, ↓pV_H1, ↓gR_H2, ↓isO_H, ↓rd_HP, ↓gI_B0, ↓pV_B0, ↓gI_B1, ↓pV_B1, ↓gR_B2, ↓gR_B3, ↓gR_B4, ↓gR_B5, ↓gR_B6, ↓gR_B7, ↓gR_B8, ↓isO_B, ↓rd_B301, ↓wr_B301, ↓ln_B301, ↓rd_B302, ↓wr_B302, ↓ln_B302, ↓rd_B303, ↓wr_B303, ↓ln_B303, ↓rd_B304, ↓wr_B304, ↓ln_B304, ↓rd_B305, ↓wr_B305, ↓ln_B305, ↓rd_B306, ↓wr_B306, ↓ln_B306, ↓rd_B307, ↓wr_B307, ↓ln_B307, ↓gR_Tv, ↓isO_Tv, ↓rd_Tv9, ↓wr_Tv9, ↓ln_Tv9, pV_D11, pV_T0, rd_T2, wr_T2, pV_U0, rd_U2, wr_U2, pV_Ps0, pV_Ps1, pV_Ps2, pV_Ps3, pV_Ps4, pV_N0, pV_N1, pV_N2, pV_N3, rd_NL, pV_NB0, rd_NC, wr_NC, rd_NP, wr_NP, pV_V0, pV_V1, pV_V2, pV_V3, rd_VL, pV_VB0, rd_VC, wr_VC, rd_VP, wr_VP, rd_SL, rd_KP, wr_KP, pV_H0, pV_H1, rd_HP, pV_B0, pV_B1, rd_B301, wr_B301, rd_B302, wr_B302, rd_B303, wr_B303, rd_B304, wr_B304, rd_B305, wr_B305, rd_B306, wr_B306, rd_B307, wr_B307, rd_Tv9, wr_Tv9, J_l, J_neg, J_add, J_sub, J_mul, J_lt, J_le, J_eq, J_div2, J_rem2, J_shl1, J_orp, J_or, J_and, J_shr, J_ushr, J_max, J_min, J_abs, J_b0, ↓b0_ite, ↓b0_ite2, b0_ite, bI_r, bV_r, b01_ite, ite_true, ite_false, rZ_b, K_l, J_long, M_in, rd]
  by_cases h0 : F (sc W l t) < 0
  · obtain ⟨q', e1, e2⟩ := C_reach (z := z) (g := g) (w := w) (v := v) hE hs hF
    rw [if_pos h0, if_pos h0, b01_pos h0]
    simp (disch := first | assumption | omega) only [↓gR_D0, ↓gR_D1, ↓gR_D2, ↓gR_D3, ↓gR_D4, ↓gR_D5, ↓gR_D6, ↓gR_D7, ↓gR_D8, ↓gR_D9, ↓gR_D10, ↓gI_D11, ↓pV_D11, ↓isO_D, ↓gI_T0, ↓pV_T0, ↓gR_T1, ↓isO_T, ↓rd_T2, ↓wr_T2, ↓gI_U0, ↓pV_U0, ↓gR_U1, ↓isO_U, ↓rd_U2, ↓wr_U2, ↓gI_Ps0, ↓pV_Ps0, ↓gI_Ps1, ↓pV_Ps1, ↓gI_Ps2, ↓pV_Ps2, ↓gI_Ps3, ↓pV_Ps3, ↓gI_Ps4, ↓pV_Ps4, ↓isO_Ps, ↓gI_N0, ↓pV_N0, ↓gI_N1, ↓pV_N1, ↓gI_N2, ↓pV_N2, ↓gI_N3, ↓pV_N3, ↓gR_N4, ↓gR_N5, ↓isO_N, ↓rd_NL, ↓gI_NB0, ↓pV_NB0, ↓gR_NB1, ↓gR_NB2, ↓isO_NB, ↓rd_NC, ↓wr_NC, ↓ln_NC, ↓rd_NP, ↓wr_NP, ↓ln_NP, ↓gI_V0, ↓pV_V0, ↓gI_V1, ↓pV_V1, ↓gI_V2, ↓pV_V2, ↓gI_V3, ↓pV_V3, ↓gR_V4, ↓gR_V5, ↓isO_V, ↓rd_VL, ↓gI_VB0, ↓pV_VB0, ↓gR_VB1, ↓gR_VB2, ↓isO_VB, ↓rd_VC, ↓wr_VC, ↓ln_VC, ↓rd_VP, ↓wr_VP, ↓ln_VP, ↓rd_SL, ↓rd_KP, ↓wr_KP, ↓gI_H0, ↓pV_H0, ↓gI_H1, ↓pV_H1, ↓gR_H2, ↓isO_H, ↓rd_HP, ↓gI_B0, ↓pV_B0, ↓gI_B1, ↓pV_B1, ↓gR_B2, ↓gR_B3, ↓gR_B4, ↓gR_B5, ↓gR_B6, ↓gR_B7, ↓gR_B8, ↓isO_B, ↓rd_B301, ↓wr_B301, ↓ln_B301, ↓rd_B302, ↓wr_B302, ↓ln_B302, ↓rd_B303, ↓wr_B303, ↓ln_B303, ↓rd_B304, ↓wr_B304, ↓ln_B304, ↓rd_B305, ↓wr_B305, ↓ln_B305, ↓rd_B306, ↓wr_B306, ↓ln_B306, ↓rd_B307, ↓wr_B307, ↓ln_B307, ↓gR_Tv, ↓isO_Tv, ↓rd_Tv9, ↓wr_Tv9, ↓ln_Tv9, pV_D11, pV_T0, rd_T2, wr_T2, pV_U0, rd_U2, wr_U2, pV_Ps0, pV_Ps1, pV_Ps2, pV_Ps3, pV_Ps4, pV_N0, pV_N1, pV_N2, pV_N3, rd_NL, pV_NB0, rd_NC, wr_NC, rd_NP, wr_NP, pV_V0, pV_V1, pV_V2, pV_V3, rd_VL, pV_VB0, rd_VC, wr_VC, rd_VP, wr_VP, rd_SL, rd_KP, wr_KP, pV_H0, pV_H1, rd_HP, pV_B0, pV_B1, rd_B301, wr_B301, rd_B302, wr_B302, rd_B303, wr_B303, rd_B304, wr_B304, rd_B305, wr_B305, rd_B306, wr_B306, rd_B307, wr_B307, rd_Tv9, wr_Tv9, J_l, J_neg, J_add, J_sub, J_mul, J_lt, J_le, J_eq, J_div2, J_rem2, J_shl1, J_orp, J_or, J_and, J_shr, J_ushr, J_max, J_min, J_abs, J_b0, ↓b0_ite, ↓b0_ite2, b0_ite, bI_r, bV_r, b01_ite, ite_true, ite_false, rZ_b, K_l, J_long, M_in, x1, e1]
    exact ⟨q', rfl, e2⟩
  · rw [if_neg h0, if_neg h0, b01_neg h0]
    exact ⟨qq, rfl, hF⟩
/-- levels -/
noncomputable def Vn (F : Int → Int) : Int := cnt (fun c => 0 ≤ F c) 1600
def LvB (W : Int → Int) (n c0 r R : Int) (F : Int → Int) : Prop := (∀ c, F c = -1 ∨ (0 ≤ F c ∧ F c ≤ R ∧ Rc W n c0 (F c).toNat c ∧ (0 ≤ c ∧ c < 1600) ∧ 0 < SN W n c)) ∧ (∀ d : Nat, (d : Int) ≤ r → ∀ c, Rc W n c0 d c → 0 ≤ F c ∧ F c ≤ d) ∧ r + 1 ≤ Vn F
def LvI (W : Int → Int) (n c0 r x : Int) (F : Int → Int) : Prop := LvB W n c0 r (r + 1) F ∧ (x = 0 ∨ x = 1) ∧ (x = 0 → ∀ c, F c ≤ r) ∧ (x = 1 → r + 2 ≤ Vn F)
def ExF (F F' : Int → Int) (r : Int) : Prop := ∀ c, (0 ≤ F c → F' c = F c) ∧ (F c < 0 → F' c = F c ∨ F' c = r + 1)
theorem ExF.trans {F2 : Int → Int} (h1 : ExF F F' r) (h2 : ExF F' F2 r) (hr : 0 ≤ r) : ExF F F2 r := fun c => by
  obtain ⟨a1, a2⟩ := h1 c
  obtain ⟨b1, b2⟩ := h2 c
  refine ⟨fun q => by rw [b1 (by rw [a1 q]; exact q), a1 q], fun q => ?_⟩
  rcases a2 q with e | e
  · rcases b2 (by omega) with e2 | e2
    · exact Or.inl (by rw [e2, e])
    · exact Or.inr e2
  · exact Or.inr (by rw [b1 (by omega), e])
theorem ExF.refl : ExF F F r := fun c => ⟨fun _ => rfl, fun _ => Or.inl rfl⟩
theorem LvI_vst (hLG : ∀ l, 0 ≤ l → l < n → LG W l) (hn : 0 ≤ n) (hr : 0 ≤ r) (hI : LvI W n c0 r x F) (hb : F b' = r) (ha : adj W n b' c) : LvI W n c0 r (if x = 0 ∧ b01 (F c < 0) = 0 then 0 else 1) (vst F c (r + 1)) ∧ ExF F (vst F c (r + 1)) r ∧ 0 ≤ vst F c (r + 1) c := by
  obtain ⟨⟨h1, h2, h3⟩, hx, h4, h5⟩ := hI
  obtain ⟨_, hc, hpl⟩ := adj_in hLG hn ha
  unfold vst
  by_cases h0 : F c < 0
  · rw [if_pos h0, b01_pos h0, if_neg (by omega)]
    have hV : Vn (ru F c (r + 1)) = Vn F + 1 := cnt_ru hc h0 (by omega)
    have hRb : Rc W n c0 r.toNat b' := by
      rcases h1 b' with e | ⟨e1, e2, e3, e4⟩
      · omega
      · rw [hb] at e3; exact e3
    have hRc : Rc W n c0 (r + 1).toNat c := by
      rw [show (r + 1).toNat = r.toNat + 1 by omega]
      exact ⟨b', hRb, ha⟩
    refine ⟨⟨⟨fun x => ?_, fun d hd x hx => ?_, by omega⟩, Or.inr rfl, fun q => by omega, fun _ => by omega⟩, fun x => ?_, by rw [ru_same]; omega⟩
    · rw [ru_at]
      by_cases e : x = c
      · rw [if_pos e, e]
        exact Or.inr ⟨by omega, by omega, hRc, hc, hpl⟩
      · rw [if_neg e]; exact h1 x
    · have := h2 d hd x hx
      rw [ru_ne (fun e => by rw [e] at this; omega)]
      exact this
    · rw [ru_at]
      by_cases e : x = c
      · rw [if_pos e, e]
        exact ⟨fun q => by omega, fun _ => Or.inr rfl⟩
      · rw [if_neg e]
        exact ⟨fun _ => rfl, fun _ => Or.inl rfl⟩
  · rw [if_neg h0, b01_neg h0]
    refine ⟨⟨⟨h1, h2, h3⟩, ?_, fun q => h4 ?_, fun q => h5 ?_⟩, ExF.refl, by omega⟩
    · split
      · exact Or.inl rfl
      · exact Or.inr rfl
    · by_cases e : x = 0
      · exact e
      · rw [if_neg (fun q => e q.1)] at q; omega
    · by_cases e : x = 0
      · rw [if_pos ⟨e, rfl⟩] at q; omega
      · omega
def orr (x a b : Int) : Int := if x = 0 ∧ a = 0 ∧ b = 0 then 0 else 1
theorem C_ride116 {k6 : Nat → Nat → Nat → Int32 → Int32 → Int32 → XH → XR} {k30 : Nat → Nat → Nat → Int32 → Int32 → Int32 → Int32 → Int32 → XH → XR} {p1 p2 p3 : Nat} {x5 x6 x7 x3 : Int32} (hx : x = 0 ∨ x = 1) (ha : u = 0 ∨ u = 1) (hb : e = 0 ∨ e = 1) : qTv_rideOn_116 k6 k30 p1 p2 p3 x3 (J x) x5 x6 x7 (J u) (J e) h = k30 p1 p2 p3 x3 (J (orr x u e)) x5 x6 (x7 + 1) h := by
  rcases hx with rfl | rfl <;> rcases ha with rfl | rfl <;> rcases hb with rfl | rfl <;> rfl
def PrF (W : Int → Int) (n : Int) (F : Int → Int) (r l t : Int) : Prop := ∀ l' t', (0 ≤ l' ∧ l' < n) → (0 ≤ t' ∧ t' < cT W l') → (l' < l ∨ (l' = l ∧ t' < t)) → F (sc W l' t') = r → (1 ≤ t' → 0 ≤ F (sc W l' (t' - 1))) ∧ (t' + 1 < cT W l' → 0 ≤ F (sc W l' (t' + 1)))
theorem PrF_ex (hr : 0 ≤ r) (h1 : ∀ c, F c = -1 ∨ 0 ≤ F c) (hp : PrF W n F r l t) (hx : ExF F F' r) : PrF W n F' r l t := fun l' t' q1 q2 q3 q4 => by
  have e : F (sc W l' t') = r := by
    obtain ⟨a1, a2⟩ := hx (sc W l' t')
    rcases h1 (sc W l' t') with e | e
    · rcases a2 (by omega) with e2 | e2 <;> omega
    · rw [← a1 e]; exact q4
  have y := hp l' t' q1 q2 q3 e
  exact ⟨fun z1 => by rw [(hx _).1 (y.1 z1)]; exact y.1 z1, fun z1 => by rw [(hx _).1 (y.2 z1)]; exact y.2 z1⟩
theorem LvI.two (h : LvI W n c0 r x F) : ∀ c, F c = -1 ∨ 0 ≤ F c := fun c => by
  rcases h.1.1 c with e | e
  · exact Or.inl e
  · exact Or.inr e.1
theorem LvI.bd (h : LvI W n c0 r x F) (hr : 0 ≤ r ∧ r ≤ 160) : -1 ≤ F c ∧ F c ≤ 2000 := by
  rcases h.1.1 c with e | e <;> omega
theorem C_ride30 {k6 : Nat → Nat → Nat → Int32 → Int32 → Int32 → XH → XR} (hE : TvE s W n) (hr : 0 ≤ r ∧ r ≤ 160) (hl : 0 ≤ l ∧ l < n) (hF : FVq W n qq F) (hI : LvI W n c0 r x F) (hp : PrF W n F r l 0) : ∃ q' F' x', qTv_rideOn_30 k6 LF (z + 308) (z + 6) (z + 300) (J r) (J x) (J l) (J (cT W l)) (J 0) (hi z TD g w (rs s 309 qq)) = k6 (z + 308) (z + 6) (z + 300) (J r) (J x') (J (l + 1)) (hi z TD g w (rs s 309 q')) ∧ FVq W n q' F' ∧ LvI W n c0 r x' F' ∧ PrF W n F' r (l + 1) 0 := by
  have hn := hE.1
  have bt := (hE.lb l hl.1 hl.2).2.1
  refine loopI (S := Int × Int × (Int → Int) × (Int → Int)) (fun N q => qTv_rideOn_30 k6 N (z + 308) (z + 6) (z + 300) (J r) (J q.2.1) (J l) (J (cT W l)) (J q.1) (hi z TD g w (rs s 309 q.2.2.1))) (fun X => ∃ q' F' x', X = k6 (z + 308) (z + 6) (z + 300) (J r) (J x') (J (l + 1)) (hi z TD g w (rs s 309 q')) ∧ FVq W n q' F' ∧ LvI W n c0 r x' F' ∧ PrF W n F' r (l + 1) 0) (fun q => (0 ≤ q.1 ∧ q.1 ≤ cT W l) ∧ FVq W n q.2.2.1 q.2.2.2 ∧ LvI W n c0 r q.2.1 q.2.2.2 ∧ PrF W n q.2.2.2 r l q.1) (fun q => cT W l - q.1) (by intro q hq; omega) (fun N q hq ih => ?_) (0, x, qq, F) ⟨by show (0 : Int) ≤ 0 ∧ 0 ≤ cT W l; omega, hF, hI, hp⟩ (by show cT W l - 0 < 20000; omega)
  obtain ⟨t, x, p, F⟩ := q
  obtain ⟨ht, hF, hI, hp⟩ := hq
  change 0 ≤ t ∧ t ≤ cT W l at ht
  change FVq W n p F at hF
  change LvI W n c0 r x F at hI
  change PrF W n F r l t at hp
  have hE2 := TvE_q (qq := p) hE
  show ∃ q' F' x', qTv_rideOn_30_b k6 (qTv_rideOn_30 k6 N) (z + 308) (z + 6) (z + 300) (J r) (J x) (J l) (J (cT W l)) (J t) (hi z TD g w (rs s 309 p)) = _ ∧ _
  unfold qTv_rideOn_30_b
  simp (disch := first | assumption | omega) only [J_l, J_neg, J_add, J_sub, J_mul, J_lt, J_le, J_eq, J_div2, J_rem2, J_shl1, J_orp, J_or, J_and, J_shr, J_ushr, J_max, J_min, J_abs, J_b0, ↓b0_ite, ↓b0_ite2, b0_ite, bI_r, bV_r, b01_ite, ite_true, ite_false, rZ_b, K_l, J_long, M_in]
  by_cases h0 : t < cT W l
  · have rd : rs s 309 p 309 (l * 20 + t) = F (sc W l t) := by rw [rs_same]; exact hF l t hl ⟨ht.1, h0⟩
    have fb := hI.bd (c := sc W l t) hr
    rw [if_pos h0]
    simp (disch := first | assumption | omega) only [↓gR_D0, ↓gR_D1, ↓gR_D2, ↓gR_D3, ↓gR_D4, ↓gR_D5, ↓gR_D6, ↓gR_D7, ↓gR_D8, ↓gR_D9, ↓gR_D10, ↓gI_D11, ↓pV_D11, ↓isO_D, ↓gI_T0, ↓pV_T0, ↓gR_T1, ↓isO_T, ↓rd_T2, ↓wr_T2, ↓gI_U0, ↓pV_U0, ↓gR_U1, ↓isO_U, ↓rd_U2, ↓wr_U2, ↓gI_Ps0, ↓pV_Ps0, ↓gI_Ps1, ↓pV_Ps1, ↓gI_Ps2, ↓pV_Ps2, ↓gI_Ps3, ↓pV_Ps3, ↓gI_Ps4, ↓pV_Ps4, ↓isO_Ps, ↓gI_N0, ↓pV_N0, ↓gI_N1, ↓pV_N1, ↓gI_N2, ↓pV_N2, ↓gI_N3, ↓pV_N3, ↓gR_N4, ↓gR_N5, ↓isO_N, ↓rd_NL, ↓gI_NB0, ↓pV_NB0, ↓gR_NB1, ↓gR_NB2, ↓isO_NB, ↓rd_NC, ↓wr_NC, ↓ln_NC, ↓rd_NP, ↓wr_NP, ↓ln_NP, ↓gI_V0, ↓pV_V0, ↓gI_V1, ↓pV_V1, ↓gI_V2, ↓pV_V2, ↓gI_V3, ↓pV_V3, ↓gR_V4, ↓gR_V5, ↓isO_V, ↓rd_VL, ↓gI_VB0, ↓pV_VB0, ↓gR_VB1, ↓gR_VB2, ↓isO_VB, ↓rd_VC, ↓wr_VC, ↓ln_VC, ↓rd_VP, ↓wr_VP, ↓ln_VP, ↓rd_SL, ↓rd_KP, ↓wr_KP, ↓gI_H0, ↓pV_H0, ↓gI_H1, ↓pV_H1, ↓gR_H2, ↓isO_H, ↓rd_HP, ↓gI_B0, ↓pV_B0, ↓gI_B1, ↓pV_B1, ↓gR_B2, ↓gR_B3, ↓gR_B4, ↓gR_B5, ↓gR_B6, ↓gR_B7, ↓gR_B8, ↓isO_B, ↓rd_B301, ↓wr_B301, ↓ln_B301, ↓rd_B302, ↓wr_B302, ↓ln_B302, ↓rd_B303, ↓wr_B303, ↓ln_B303, ↓rd_B304, ↓wr_B304, ↓ln_B304, ↓rd_B305, ↓wr_B305, ↓ln_B305, ↓rd_B306, ↓wr_B306, ↓ln_B306, ↓rd_B307, ↓wr_B307, ↓ln_B307, ↓gR_Tv, ↓isO_Tv, ↓rd_Tv9, ↓wr_Tv9, ↓ln_Tv9, pV_D11, pV_T0, rd_T2, wr_T2, pV_U0, rd_U2, wr_U2, pV_Ps0, pV_Ps1, pV_Ps2, pV_Ps3, pV_Ps4, pV_N0, pV_N1, pV_N2, pV_N3, rd_NL, pV_NB0, rd_NC, wr_NC, rd_NP, wr_NP, pV_V0, pV_V1, pV_V2, pV_V3, rd_VL, pV_VB0, rd_VC, wr_VC, rd_VP, wr_VP, rd_SL, rd_KP, wr_KP, pV_H0, pV_H1, rd_HP, pV_B0, pV_B1, rd_B301, wr_B301, rd_B302, wr_B302, rd_B303, wr_B303, rd_B304, wr_B304, rd_B305, wr_B305, rd_B306, wr_B306, rd_B307, wr_B307, rd_Tv9, wr_Tv9, J_l, J_neg, J_add, J_sub, J_mul, J_lt, J_le, J_eq, J_div2, J_rem2, J_shl1, J_orp, J_or, J_and, J_shr, J_ushr, J_max, J_min, J_abs, J_b0, ↓b0_ite, ↓b0_ite2, b0_ite, bI_r, bV_r, b01_ite, ite_true, ite_false, rZ_b, K_l, J_long, M_in, rd]
    by_cases h1 : F (sc W l t) = r
    · rw [if_pos h1]
      -- the second neighbour
      have tail : ∀ (p1 F1 : Int → Int) (a : Int), (a = 0 ∨ a = 1) → FVq W n p1 F1 → LvI W n c0 r (if x = 0 ∧ a = 0 then 0 else 1) F1 → ExF F F1 r → (1 ≤ t → 0 ≤ F1 (sc W l (t - 1))) → ∃ q' F' x', qTv_rideOn_82 k6 (qTv_rideOn_30 k6 N) (z + 308) (z + 6) (z + 300) (J r) (J x) (J l) (J (cT W l)) (J t) (J a) (hi z TD g w (rs s 309 p1)) = k6 (z + 308) (z + 6) (z + 300) (J r) (J x') (J (l + 1)) (hi z TD g w (rs s 309 q')) ∧ FVq W n q' F' ∧ LvI W n c0 r x' F' ∧ PrF W n F' r (l + 1) 0 := by
        intro p1 F1 a ha hF1 hI1 hx1 hb1
        have hs1 : F1 (sc W l t) = r := by rw [(hx1 _).1 (by omega), h1]
        have hp1 := PrF_ex hr.1 hI.two hp hx1
        have fin : ∀ (p2 F2 : Int → Int) (b : Int), (b = 0 ∨ b = 1) → FVq W n p2 F2 → LvI W n c0 r (orr x a b) F2 → ExF F1 F2 r → (t + 1 < cT W l → 0 ≤ F2 (sc W l (t + 1))) → ∃ q' F' x', qTv_rideOn_116 k6 (qTv_rideOn_30 k6 N) (z + 308) (z + 6) (z + 300) (J r) (J x) (J l) (J (cT W l)) (J t) (J a) (J b) (hi z TD g w (rs s 309 p2)) = k6 (z + 308) (z + 6) (z + 300) (J r) (J x') (J (l + 1)) (hi z TD g w (rs s 309 q')) ∧ FVq W n q' F' ∧ LvI W n c0 r x' F' ∧ PrF W n F' r (l + 1) 0 := by
          intro p2 F2 b hb hF2 hI2 hx2 hb2
          rw [C_ride116 hI.2.1 ha hb]
          have hp2 := PrF_ex hr.1 hI1.two hp1 hx2
          simp (disch := first | assumption | omega) only [J_l, J_neg, J_add, J_sub, J_mul, J_lt, J_le, J_eq, J_div2, J_rem2, J_shl1, J_orp, J_or, J_and, J_shr, J_ushr, J_max, J_min, J_abs, J_b0, ↓b0_ite, ↓b0_ite2, b0_ite, bI_r, bV_r, b01_ite, ite_true, ite_false, rZ_b, K_l, J_long, M_in]
          refine ih (t + 1, orr x a b, p2, F2) ⟨by show 0 ≤ t + 1 ∧ t + 1 ≤ cT W l; omega, hF2, hI2, fun l' t' q1 q2 q3 q4 => ?_⟩ (by show cT W l - (t + 1) < cT W l - t; omega)
          change F2 (sc W l' t') = r at q4
          show (1 ≤ t' → 0 ≤ F2 (sc W l' (t' - 1))) ∧ (t' + 1 < cT W l' → 0 ≤ F2 (sc W l' (t' + 1)))
          by_cases e : l' = l ∧ t' = t
          · rw [e.1, e.2]
            exact ⟨fun z1 => by rw [(hx2 _).1 (hb1 z1)]; exact hb1 z1, hb2⟩
          · exact hp2 l' t' q1 q2 (by
              change l' < l ∨ (l' = l ∧ t' < t + 1) at q3
              omega) q4
        unfold qTv_rideOn_82
        simp (disch := first | assumption | omega) only [J_l, J_neg, J_add, J_sub, J_mul, J_lt, J_le, J_eq, J_div2, J_rem2, J_shl1, J_orp, J_or, J_and, J_shr, J_ushr, J_max, J_min, J_abs, J_b0, ↓b0_ite, ↓b0_ite2, b0_ite, bI_r, bV_r, b01_ite, ite_true, ite_false, rZ_b, K_l, J_long, M_in]
        by_cases h2 : t + 1 < cT W l
        · rw [if_pos h2]
          obtain ⟨q2, e1, e2⟩ := C_reachStation (z := z) (g := g) (w := w) (v := r + 1) (t := t + 1) hE hl ⟨by omega, h2⟩ hF1 (hI1.bd hr)
          obtain ⟨v1, v2, v3⟩ := LvI_vst (c := sc W l (t + 1)) hE.2.1 hn.1 hr.1 hI1 hs1 ⟨l, t, hl, ⟨ht.1, h2⟩, Or.inl ⟨rfl, rfl⟩⟩
          have ov : (if (if x = 0 ∧ a = 0 then (0 : Int) else 1) = 0 ∧ b01 (F1 (sc W l (t + 1)) < 0) = 0 then (0 : Int) else 1) = orr x a (b01 (F1 (sc W l (t + 1)) < 0)) := by
            unfold orr
            by_cases z1 : x = 0 ∧ a = 0
            · rw [if_pos z1]
              by_cases z2 : b01 (F1 (sc W l (t + 1)) < 0) = 0
              · rw [if_pos ⟨rfl, z2⟩, if_pos ⟨z1.1, z1.2, z2⟩]
              · rw [if_neg (fun q => z2 q.2), if_neg (fun q => z2 q.2.2)]
            · rw [if_neg z1, if_neg (fun q => by have := q.1; omega), if_neg (fun q => z1 ⟨q.1, q.2.1⟩)]
          rw [ov] at v1
          have fin2 := fin q2 (vst F1 (sc W l (t + 1)) (r + 1)) (b01 (F1 (sc W l (t + 1)) < 0)) b01_or e2 v1 v2 (fun _ => v3)
          simp (disch := first | assumption | omega) only [↓gR_D0, ↓gR_D1, ↓gR_D2, ↓gR_D3, ↓gR_D4, ↓gR_D5, ↓gR_D6, ↓gR_D7, ↓gR_D8, ↓gR_D9, ↓gR_D10, ↓gI_D11, ↓pV_D11, ↓isO_D, ↓gI_T0, ↓pV_T0, ↓gR_T1, ↓isO_T, ↓rd_T2, ↓wr_T2, ↓gI_U0, ↓pV_U0, ↓gR_U1, ↓isO_U, ↓rd_U2, ↓wr_U2, ↓gI_Ps0, ↓pV_Ps0, ↓gI_Ps1, ↓pV_Ps1, ↓gI_Ps2, ↓pV_Ps2, ↓gI_Ps3, ↓pV_Ps3, ↓gI_Ps4, ↓pV_Ps4, ↓isO_Ps, ↓gI_N0, ↓pV_N0, ↓gI_N1, ↓pV_N1, ↓gI_N2, ↓pV_N2, ↓gI_N3, ↓pV_N3, ↓gR_N4, ↓gR_N5, ↓isO_N, ↓rd_NL, ↓gI_NB0, ↓pV_NB0, ↓gR_NB1, ↓gR_NB2, ↓isO_NB, ↓rd_NC, ↓wr_NC, ↓ln_NC, ↓rd_NP, ↓wr_NP, ↓ln_NP, ↓gI_V0, ↓pV_V0, ↓gI_V1, ↓pV_V1, ↓gI_V2, ↓pV_V2, ↓gI_V3, ↓pV_V3, ↓gR_V4, ↓gR_V5, ↓isO_V, ↓rd_VL, ↓gI_VB0, ↓pV_VB0, ↓gR_VB1, ↓gR_VB2, ↓isO_VB, ↓rd_VC, ↓wr_VC, ↓ln_VC, ↓rd_VP, ↓wr_VP, ↓ln_VP, ↓rd_SL, ↓rd_KP, ↓wr_KP, ↓gI_H0, ↓pV_H0, ↓gI_H1, ↓pV_H1, ↓gR_H2, ↓isO_H, ↓rd_HP, ↓gI_B0, ↓pV_B0, ↓gI_B1, ↓pV_B1, ↓gR_B2, ↓gR_B3, ↓gR_B4, ↓gR_B5, ↓gR_B6, ↓gR_B7, ↓gR_B8, ↓isO_B, ↓rd_B301, ↓wr_B301, ↓ln_B301, ↓rd_B302, ↓wr_B302, ↓ln_B302, ↓rd_B303, ↓wr_B303, ↓ln_B303, ↓rd_B304, ↓wr_B304, ↓ln_B304, ↓rd_B305, ↓wr_B305, ↓ln_B305, ↓rd_B306, ↓wr_B306, ↓ln_B306, ↓rd_B307, ↓wr_B307, ↓ln_B307, ↓gR_Tv, ↓isO_Tv, ↓rd_Tv9, ↓wr_Tv9, ↓ln_Tv9, pV_D11, pV_T0, rd_T2, wr_T2, pV_U0, rd_U2, wr_U2, pV_Ps0, pV_Ps1, pV_Ps2, pV_Ps3, pV_Ps4, pV_N0, pV_N1, pV_N2, pV_N3, rd_NL, pV_NB0, rd_NC, wr_NC, rd_NP, wr_NP, pV_V0, pV_V1, pV_V2, pV_V3, rd_VL, pV_VB0, rd_VC, wr_VC, rd_VP, wr_VP, rd_SL, rd_KP, wr_KP, pV_H0, pV_H1, rd_HP, pV_B0, pV_B1, rd_B301, wr_B301, rd_B302, wr_B302, rd_B303, wr_B303, rd_B304, wr_B304, rd_B305, wr_B305, rd_B306, wr_B306, rd_B307, wr_B307, rd_Tv9, wr_Tv9, J_l, J_neg, J_add, J_sub, J_mul, J_lt, J_le, J_eq, J_div2, J_rem2, J_shl1, J_orp, J_or, J_and, J_shr, J_ushr, J_max, J_min, J_abs, J_b0, ↓b0_ite, ↓b0_ite2, b0_ite, bI_r, bV_r, b01_ite, ite_true, ite_false, rZ_b, K_l, J_long, M_in, e1]
          by_cases h3 : F1 (sc W l (t + 1)) < 0
          · rw [if_pos h3]
            rw [b01_pos h3] at fin2
            exact fin2
          · rw [if_neg h3]
            rw [b01_neg h3] at fin2
            unfold qTv_rideOn_115
            exact fin2
        · rw [if_neg h2]
          unfold qTv_rideOn_115
          refine fin p1 F1 0 (Or.inl rfl) hF1 ?_ ExF.refl (fun q => absurd q h2)
          have ov : (if x = 0 ∧ a = 0 then (0 : Int) else 1) = orr x a 0 := by
            unfold orr
            by_cases z1 : x = 0 ∧ a = 0
            · rw [if_pos z1, if_pos ⟨z1.1, z1.2, rfl⟩]
            · rw [if_neg z1, if_neg (fun q => z1 ⟨q.1, q.2.1⟩)]
          rw [← ov]
          exact hI1
      by_cases h2 : 0 < t
      · rw [if_pos h2]
        obtain ⟨q2, e1, e2⟩ := C_reachStation (z := z) (g := g) (w := w) (v := r + 1) (t := t - 1) hE hl ⟨by omega, by omega⟩ hF (hI.bd hr)
        obtain ⟨v1, v2, v3⟩ := LvI_vst (c := sc W l (t - 1)) hE.2.1 hn.1 hr.1 hI h1 ⟨l, t - 1, hl, ⟨by omega, by omega⟩, Or.inr ⟨by rw [show t - 1 + 1 = t by omega], rfl⟩⟩
        have tl := tail q2 (vst F (sc W l (t - 1)) (r + 1)) (b01 (F (sc W l (t - 1)) < 0)) b01_or e2 v1 v2 (fun _ => v3)
        simp (disch := first | assumption | omega) only [↓gR_D0, ↓gR_D1, ↓gR_D2, ↓gR_D3, ↓gR_D4, ↓gR_D5, ↓gR_D6, ↓gR_D7, ↓gR_D8, ↓gR_D9, ↓gR_D10, ↓gI_D11, ↓pV_D11, ↓isO_D, ↓gI_T0, ↓pV_T0, ↓gR_T1, ↓isO_T, ↓rd_T2, ↓wr_T2, ↓gI_U0, ↓pV_U0, ↓gR_U1, ↓isO_U, ↓rd_U2, ↓wr_U2, ↓gI_Ps0, ↓pV_Ps0, ↓gI_Ps1, ↓pV_Ps1, ↓gI_Ps2, ↓pV_Ps2, ↓gI_Ps3, ↓pV_Ps3, ↓gI_Ps4, ↓pV_Ps4, ↓isO_Ps, ↓gI_N0, ↓pV_N0, ↓gI_N1, ↓pV_N1, ↓gI_N2, ↓pV_N2, ↓gI_N3, ↓pV_N3, ↓gR_N4, ↓gR_N5, ↓isO_N, ↓rd_NL, ↓gI_NB0, ↓pV_NB0, ↓gR_NB1, ↓gR_NB2, ↓isO_NB, ↓rd_NC, ↓wr_NC, ↓ln_NC, ↓rd_NP, ↓wr_NP, ↓ln_NP, ↓gI_V0, ↓pV_V0, ↓gI_V1, ↓pV_V1, ↓gI_V2, ↓pV_V2, ↓gI_V3, ↓pV_V3, ↓gR_V4, ↓gR_V5, ↓isO_V, ↓rd_VL, ↓gI_VB0, ↓pV_VB0, ↓gR_VB1, ↓gR_VB2, ↓isO_VB, ↓rd_VC, ↓wr_VC, ↓ln_VC, ↓rd_VP, ↓wr_VP, ↓ln_VP, ↓rd_SL, ↓rd_KP, ↓wr_KP, ↓gI_H0, ↓pV_H0, ↓gI_H1, ↓pV_H1, ↓gR_H2, ↓isO_H, ↓rd_HP, ↓gI_B0, ↓pV_B0, ↓gI_B1, ↓pV_B1, ↓gR_B2, ↓gR_B3, ↓gR_B4, ↓gR_B5, ↓gR_B6, ↓gR_B7, ↓gR_B8, ↓isO_B, ↓rd_B301, ↓wr_B301, ↓ln_B301, ↓rd_B302, ↓wr_B302, ↓ln_B302, ↓rd_B303, ↓wr_B303, ↓ln_B303, ↓rd_B304, ↓wr_B304, ↓ln_B304, ↓rd_B305, ↓wr_B305, ↓ln_B305, ↓rd_B306, ↓wr_B306, ↓ln_B306, ↓rd_B307, ↓wr_B307, ↓ln_B307, ↓gR_Tv, ↓isO_Tv, ↓rd_Tv9, ↓wr_Tv9, ↓ln_Tv9, pV_D11, pV_T0, rd_T2, wr_T2, pV_U0, rd_U2, wr_U2, pV_Ps0, pV_Ps1, pV_Ps2, pV_Ps3, pV_Ps4, pV_N0, pV_N1, pV_N2, pV_N3, rd_NL, pV_NB0, rd_NC, wr_NC, rd_NP, wr_NP, pV_V0, pV_V1, pV_V2, pV_V3, rd_VL, pV_VB0, rd_VC, wr_VC, rd_VP, wr_VP, rd_SL, rd_KP, wr_KP, pV_H0, pV_H1, rd_HP, pV_B0, pV_B1, rd_B301, wr_B301, rd_B302, wr_B302, rd_B303, wr_B303, rd_B304, wr_B304, rd_B305, wr_B305, rd_B306, wr_B306, rd_B307, wr_B307, rd_Tv9, wr_Tv9, J_l, J_neg, J_add, J_sub, J_mul, J_lt, J_le, J_eq, J_div2, J_rem2, J_shl1, J_orp, J_or, J_and, J_shr, J_ushr, J_max, J_min, J_abs, J_b0, ↓b0_ite, ↓b0_ite2, b0_ite, bI_r, bV_r, b01_ite, ite_true, ite_false, rZ_b, K_l, J_long, M_in, e1]
        by_cases h3 : F (sc W l (t - 1)) < 0
        · rw [if_pos h3]
          rw [b01_pos h3] at tl
          exact tl
        · rw [if_neg h3]
          rw [b01_neg h3] at tl
          unfold qTv_rideOn_81
          exact tl
      · rw [if_neg h2]
        unfold qTv_rideOn_81
        refine tail p F 0 (Or.inl rfl) hF ?_ ExF.refl (fun q => by omega)
        have hx := hI.2.1
        rw [show (if x = 0 ∧ (0 : Int) = 0 then (0 : Int) else 1) = x by
          rcases hx with e | e
          · rw [if_pos ⟨e, rfl⟩, e]
          · rw [if_neg (by omega), e]]
        exact hI
    · rw [if_neg h1]
      refine ih (t + 1, x, p, F) ⟨by show 0 ≤ t + 1 ∧ t + 1 ≤ cT W l; omega, hF, hI, fun l' t' q1 q2 q3 q4 => ?_⟩ (by show cT W l - (t + 1) < cT W l - t; omega)
      change F (sc W l' t') = r at q4
      change l' < l ∨ (l' = l ∧ t' < t + 1) at q3
      by_cases e : l' = l ∧ t' = t
      · rw [e.1, e.2] at q4
        exact absurd q4 h1
      · exact hp l' t' q1 q2 (by omega) q4
  · rw [if_neg h0]
    refine ⟨p, F, x, rfl, hF, hI, fun l' t' q1 q2 q3 q4 => ?_⟩
    by_cases e : l' = l
    · have q2' := q2
      rw [e] at q2'
      exact hp l' t' q1 q2 (by omega) q4
    · exact hp l' t' q1 q2 (by omega) q4
theorem rZ_x (hx : x = 0 ∨ x = 1) : rZ (J x) h = rI (J x) h := by
  rcases hx with rfl | rfl <;> rfl
theorem C_rideOn (hE : TvE s W n) (hr : 0 ≤ r ∧ r ≤ 160) (hF : FVq W n qq F) (hI : LvI W n c0 r 0 F) : ∃ q' F' x', qTv_rideOn (z + 308) (z + 6) (z + 300) (J r) (hi z TD g w (rs s 309 qq)) = rI (J x') (hi z TD g w (rs s 309 q')) ∧ FVq W n q' F' ∧ LvI W n c0 r x' F' ∧ PrF W n F' r n 0 := by
  have hn := hE.1
  unfold qTv_rideOn
  refine loopI (S := Int × Int × (Int → Int) × (Int → Int)) (fun N q => qTv_rideOn_6 N (z + 308) (z + 6) (z + 300) (J r) (J q.2.1) (J q.1) (hi z TD g w (rs s 309 q.2.2.1))) (fun X => ∃ q' F' x', X = rI (J x') (hi z TD g w (rs s 309 q')) ∧ FVq W n q' F' ∧ LvI W n c0 r x' F' ∧ PrF W n F' r n 0) (fun q => (0 ≤ q.1 ∧ q.1 ≤ n) ∧ FVq W n q.2.2.1 q.2.2.2 ∧ LvI W n c0 r q.2.1 q.2.2.2 ∧ PrF W n q.2.2.2 r q.1 0) (fun q => n - q.1) (by intro q hq; omega) (fun N q hq ih => ?_) (0, 0, qq, F) ⟨by show (0 : Int) ≤ 0 ∧ 0 ≤ n; omega, hF, hI, fun l' t' q1 q2 q3 q4 => by
    change l' < 0 ∨ (l' = 0 ∧ t' < 0) at q3
    omega⟩ (by show n - 0 < 20000; omega)
  obtain ⟨l, x, p, F⟩ := q
  obtain ⟨hl, hF, hI, hp⟩ := hq
  change 0 ≤ l ∧ l ≤ n at hl
  change FVq W n p F at hF
  change LvI W n c0 r x F at hI
  change PrF W n F r l 0 at hp
  have hE2 := TvE_q (qq := p) hE
  have h3 := hE2.2.2.1
  show ∃ q' F' x', qTv_rideOn_6_b (qTv_rideOn_6 N) (z + 308) (z + 6) (z + 300) (J r) (J x) (J l) (hi z TD g w (rs s 309 p)) = _ ∧ _
  unfold qTv_rideOn_6_b
  simp (disch := first | assumption | omega) only [↓gR_D0, ↓gR_D1, ↓gR_D2, ↓gR_D3, ↓gR_D4, ↓gR_D5, ↓gR_D6, ↓gR_D7, ↓gR_D8, ↓gR_D9, ↓gR_D10, ↓gI_D11, ↓pV_D11, ↓isO_D, ↓gI_T0, ↓pV_T0, ↓gR_T1, ↓isO_T, ↓rd_T2, ↓wr_T2, ↓gI_U0, ↓pV_U0, ↓gR_U1, ↓isO_U, ↓rd_U2, ↓wr_U2, ↓gI_Ps0, ↓pV_Ps0, ↓gI_Ps1, ↓pV_Ps1, ↓gI_Ps2, ↓pV_Ps2, ↓gI_Ps3, ↓pV_Ps3, ↓gI_Ps4, ↓pV_Ps4, ↓isO_Ps, ↓gI_N0, ↓pV_N0, ↓gI_N1, ↓pV_N1, ↓gI_N2, ↓pV_N2, ↓gI_N3, ↓pV_N3, ↓gR_N4, ↓gR_N5, ↓isO_N, ↓rd_NL, ↓gI_NB0, ↓pV_NB0, ↓gR_NB1, ↓gR_NB2, ↓isO_NB, ↓rd_NC, ↓wr_NC, ↓ln_NC, ↓rd_NP, ↓wr_NP, ↓ln_NP, ↓gI_V0, ↓pV_V0, ↓gI_V1, ↓pV_V1, ↓gI_V2, ↓pV_V2, ↓gI_V3, ↓pV_V3, ↓gR_V4, ↓gR_V5, ↓isO_V, ↓rd_VL, ↓gI_VB0, ↓pV_VB0, ↓gR_VB1, ↓gR_VB2, ↓isO_VB, ↓rd_VC, ↓wr_VC, ↓ln_VC, ↓rd_VP, ↓wr_VP, ↓ln_VP, ↓rd_SL, ↓rd_KP, ↓wr_KP, ↓gI_H0, ↓pV_H0, ↓gI_H1, ↓pV_H1, ↓gR_H2, ↓isO_H, ↓rd_HP, ↓gI_B0, ↓pV_B0, ↓gI_B1, ↓pV_B1, ↓gR_B2, ↓gR_B3, ↓gR_B4, ↓gR_B5, ↓gR_B6, ↓gR_B7, ↓gR_B8, ↓isO_B, ↓rd_B301, ↓wr_B301, ↓ln_B301, ↓rd_B302, ↓wr_B302, ↓ln_B302, ↓rd_B303, ↓wr_B303, ↓ln_B303, ↓rd_B304, ↓wr_B304, ↓ln_B304, ↓rd_B305, ↓wr_B305, ↓ln_B305, ↓rd_B306, ↓wr_B306, ↓ln_B306, ↓rd_B307, ↓wr_B307, ↓ln_B307, ↓gR_Tv, ↓isO_Tv, ↓rd_Tv9, ↓wr_Tv9, ↓ln_Tv9, pV_D11, pV_T0, rd_T2, wr_T2, pV_U0, rd_U2, wr_U2, pV_Ps0, pV_Ps1, pV_Ps2, pV_Ps3, pV_Ps4, pV_N0, pV_N1, pV_N2, pV_N3, rd_NL, pV_NB0, rd_NC, wr_NC, rd_NP, wr_NP, pV_V0, pV_V1, pV_V2, pV_V3, rd_VL, pV_VB0, rd_VC, wr_VC, rd_VP, wr_VP, rd_SL, rd_KP, wr_KP, pV_H0, pV_H1, rd_HP, pV_B0, pV_B1, rd_B301, wr_B301, rd_B302, wr_B302, rd_B303, wr_B303, rd_B304, wr_B304, rd_B305, wr_B305, rd_B306, wr_B306, rd_B307, wr_B307, rd_Tv9, wr_Tv9, J_l, J_neg, J_add, J_sub, J_mul, J_lt, J_le, J_eq, J_div2, J_rem2, J_shl1, J_orp, J_or, J_and, J_shr, J_ushr, J_max, J_min, J_abs, J_b0, ↓b0_ite, ↓b0_ite2, b0_ite, bI_r, bV_r, b01_ite, ite_true, ite_false, rZ_b, K_l, J_long, M_in, h3]
  by_cases h0 : l < n
  · obtain ⟨hLn, x2⟩ := hE2.ln ⟨hl.1, h0⟩
    rw [if_pos h0]
    simp (disch := first | assumption | omega) only [↓gR_D0, ↓gR_D1, ↓gR_D2, ↓gR_D3, ↓gR_D4, ↓gR_D5, ↓gR_D6, ↓gR_D7, ↓gR_D8, ↓gR_D9, ↓gR_D10, ↓gI_D11, ↓pV_D11, ↓isO_D, ↓gI_T0, ↓pV_T0, ↓gR_T1, ↓isO_T, ↓rd_T2, ↓wr_T2, ↓gI_U0, ↓pV_U0, ↓gR_U1, ↓isO_U, ↓rd_U2, ↓wr_U2, ↓gI_Ps0, ↓pV_Ps0, ↓gI_Ps1, ↓pV_Ps1, ↓gI_Ps2, ↓pV_Ps2, ↓gI_Ps3, ↓pV_Ps3, ↓gI_Ps4, ↓pV_Ps4, ↓isO_Ps, ↓gI_N0, ↓pV_N0, ↓gI_N1, ↓pV_N1, ↓gI_N2, ↓pV_N2, ↓gI_N3, ↓pV_N3, ↓gR_N4, ↓gR_N5, ↓isO_N, ↓rd_NL, ↓gI_NB0, ↓pV_NB0, ↓gR_NB1, ↓gR_NB2, ↓isO_NB, ↓rd_NC, ↓wr_NC, ↓ln_NC, ↓rd_NP, ↓wr_NP, ↓ln_NP, ↓gI_V0, ↓pV_V0, ↓gI_V1, ↓pV_V1, ↓gI_V2, ↓pV_V2, ↓gI_V3, ↓pV_V3, ↓gR_V4, ↓gR_V5, ↓isO_V, ↓rd_VL, ↓gI_VB0, ↓pV_VB0, ↓gR_VB1, ↓gR_VB2, ↓isO_VB, ↓rd_VC, ↓wr_VC, ↓ln_VC, ↓rd_VP, ↓wr_VP, ↓ln_VP, ↓rd_SL, ↓rd_KP, ↓wr_KP, ↓gI_H0, ↓pV_H0, ↓gI_H1, ↓pV_H1, ↓gR_H2, ↓isO_H, ↓rd_HP, ↓gI_B0, ↓pV_B0, ↓gI_B1, ↓pV_B1, ↓gR_B2, ↓gR_B3, ↓gR_B4, ↓gR_B5, ↓gR_B6, ↓gR_B7, ↓gR_B8, ↓isO_B, ↓rd_B301, ↓wr_B301, ↓ln_B301, ↓rd_B302, ↓wr_B302, ↓ln_B302, ↓rd_B303, ↓wr_B303, ↓ln_B303, ↓rd_B304, ↓wr_B304, ↓ln_B304, ↓rd_B305, ↓wr_B305, ↓ln_B305, ↓rd_B306, ↓wr_B306, ↓ln_B306, ↓rd_B307, ↓wr_B307, ↓ln_B307, ↓gR_Tv, ↓isO_Tv, ↓rd_Tv9, ↓wr_Tv9, ↓ln_Tv9, pV_D11, pV_T0, rd_T2, wr_T2, pV_U0, rd_U2, wr_U2, pV_Ps0, pV_Ps1, pV_Ps2, pV_Ps3, pV_Ps4, pV_N0, pV_N1, pV_N2, pV_N3, rd_NL, pV_NB0, rd_NC, wr_NC, rd_NP, wr_NP, pV_V0, pV_V1, pV_V2, pV_V3, rd_VL, pV_VB0, rd_VC, wr_VC, rd_VP, wr_VP, rd_SL, rd_KP, wr_KP, pV_H0, pV_H1, rd_HP, pV_B0, pV_B1, rd_B301, wr_B301, rd_B302, wr_B302, rd_B303, wr_B303, rd_B304, wr_B304, rd_B305, wr_B305, rd_B306, wr_B306, rd_B307, wr_B307, rd_Tv9, wr_Tv9, ↓isO_L, ↓gI_L0, ↓pV_L0, ↓gI_L1, ↓pV_L1, ↓gI_L2, ↓pV_L2, ↓gI_L3, ↓pV_L3, ↓gR_L4, ↓rd_L4, ↓wr_L4, ↓gR_L5, ↓rd_L5, ↓wr_L5, pV_L0, pV_L1, pV_L2, pV_L3, rd_L4, wr_L4, rd_L5, wr_L5, J_l, J_neg, J_add, J_sub, J_mul, J_lt, J_le, J_eq, J_div2, J_rem2, J_shl1, J_orp, J_or, J_and, J_shr, J_ushr, J_max, J_min, J_abs, J_b0, ↓b0_ite, ↓b0_ite2, b0_ite, bI_r, bV_r, b01_ite, ite_true, ite_false, rZ_b, K_l, J_long, M_in, x2]
    obtain ⟨q', F', x', e1, e2, e3, e4⟩ := C_ride30 (z := z) (g := g) (w := w) (k6 := qTv_rideOn_6 N) hE hr ⟨hl.1, h0⟩ hF hI hp
    rw [e1]
    exact ih (l + 1, x', q', F') ⟨by show 0 ≤ l + 1 ∧ l + 1 ≤ n; omega, e2, e3, e4⟩ (by show n - (l + 1) < n - l; omega)
  · rw [if_neg h0, rZ_x hI.2.1]
    refine ⟨p, F, x, rfl, hF, hI, ?_⟩
    rw [show n = l by omega]
    rw [show l = n by omega] at hp ⊢
    exact hp
/-- all is found -/
def Done (W : Int → Int) (n c0 : Int) (F : Int → Int) : Prop := ∀ d : Nat, ∀ c, Rc W n c0 d c → 0 ≤ F c ∧ F c ≤ d
theorem Lv_up (hr : 0 ≤ r) (hI : LvI W n c0 r x F) (hp : PrF W n F r n 0) : ∀ d : Nat, (d : Int) ≤ r + 1 → ∀ c, Rc W n c0 d c → 0 ≤ F c ∧ F c ≤ d := fun d hd c hR => by
  obtain ⟨⟨h1, h2, h3⟩, hx, h4, h5⟩ := hI
  by_cases hd2 : (d : Int) ≤ r
  · exact h2 d hd2 c hR
  · obtain ⟨k, rfl⟩ : ∃ k : Nat, d = k + 1 := ⟨d - 1, by omega⟩
    obtain ⟨b, hb1, hb2⟩ := hR
    have hb3 := h2 k (by omega) b hb1
    by_cases e : F b = r
    · obtain ⟨l, t, q1, q2, q3⟩ := hb2
      rcases q3 with ⟨q3, q4⟩ | ⟨q3, q4⟩
      · have y := (hp l t q1 (by omega) (by omega) (by rw [q3]; exact e)).2 q2.2
        rw [q4] at y
        rcases h1 c with w1 | w1 <;> omega
      · have y := (hp l (t + 1) q1 (by omega) (by omega) (by rw [q3]; exact e)).1 (by omega)
        rw [show t + 1 - 1 = t by omega, q4] at y
        rcases h1 c with w1 | w1 <;> omega
    · have hRb : Rc W n c0 (F b).toNat b := by
        rcases h1 b with w1 | w1
        · omega
        · exact w1.2.2.1
      have y := h2 ((F b).toNat + 1) (by omega) c ⟨b, hRb, hb2⟩
      omega
theorem Lv_done (hr : 0 ≤ r) (hI : LvI W n c0 r 0 F) (hp : PrF W n F r n 0) : Done W n c0 F := by
  have up := Lv_up hr hI hp
  obtain ⟨⟨h1, h2, h3⟩, hx, h4, h5⟩ := hI
  have vis : ∀ d : Nat, ∀ c, Rc W n c0 d c → 0 ≤ F c := by
    intro d
    induction d with
    | zero => intro c hR; exact (up 0 (by omega) c hR).1
    | succ d ih =>
      intro c hR
      obtain ⟨b, hb1, hb2⟩ := hR
      have hb3 := ih b hb1
      have hb4 := h4 rfl b
      have hRb : Rc W n c0 (F b).toNat b := by
        rcases h1 b with w1 | w1
        · omega
        · exact w1.2.2.1
      exact (up ((F b).toNat + 1) (by omega) c ⟨b, hRb, hb2⟩).1
  intro d c hR
  refine ⟨vis d c hR, ?_⟩
  by_cases hd : (d : Int) ≤ r
  · exact (h2 d hd c hR).2
  · have := h4 rfl c
    omega
theorem Vn_160 (hn : 0 ≤ n ∧ n ≤ 8) (hLG : ∀ l, 0 ≤ l → l < n → LG W l) (h : ∀ c, F c = -1 ∨ (0 ≤ F c ∧ 0 < SN W n c)) : Vn F ≤ 160 := by
  have h1 : Vn F ≤ cnt (fun c => 0 < SN W n c) 1600 := sm_le fun c c1 c2 => by
    by_cases q : 0 ≤ F c
    · rcases h c with e | e
      · omega
      · rw [b01_pos q, b01_pos e.2]; omega
    · rw [b01_neg q]; exact b01_le.1
  have := places_160 hn hLG
  omega
theorem C_leastRides50 (hE : TvE s W n) (hl : 0 ≤ l ∧ l < n) (ht : 0 ≤ t ∧ t < cT W l) (hF : FVq W n qq F) (hI : LvB W n c0 0 0 F) : ∃ q' a, qTv_leastRides_50 LF (z + 308) (z + 6) (z + 300) (J (l * 20 + t)) (J 1) (J 0) (hi z TD g w (rs s 309 qq)) = rI (J a) (hi z TD g w (rs s 309 q')) ∧ SpA W n c0 (sc W l t) a := by
  have hn := hE.1
  have bt := (hE.lb l hl.1 hl.2).2.1
  refine loopI (S := Int × Int × (Int → Int) × (Int → Int)) (fun N q => qTv_leastRides_50 N (z + 308) (z + 6) (z + 300) (J (l * 20 + t)) (J q.2.1) (J q.1) (hi z TD g w (rs s 309 q.2.2.1))) (fun X => ∃ q' a, X = rI (J a) (hi z TD g w (rs s 309 q')) ∧ SpA W n c0 (sc W l t) a) (fun q => (0 ≤ q.1 ∧ q.1 ≤ 160) ∧ FVq W n q.2.2.1 q.2.2.2 ∧ ((q.2.1 = 1 ∧ LvB W n c0 q.1 q.1 q.2.2.2) ∨ (q.2.1 = 0 ∧ (∀ c, q.2.2.2 c = -1 ∨ (0 ≤ q.2.2.2 c ∧ q.2.2.2 c ≤ 1000 ∧ Rc W n c0 (q.2.2.2 c).toNat c)) ∧ Done W n c0 q.2.2.2))) (fun q => 160 - q.1) (by intro q hq; omega) (fun N q hq ih => ?_) (0, 1, qq, F) ⟨by show (0 : Int) ≤ 0 ∧ (0 : Int) ≤ 160; omega, hF, Or.inl ⟨rfl, hI⟩⟩ (by show (160 : Int) - 0 < 20000; omega)
  obtain ⟨r, x, p, F⟩ := q
  obtain ⟨hr, hF, hI⟩ := hq
  change 0 ≤ r ∧ r ≤ 160 at hr
  change FVq W n p F at hF
  change (x = 1 ∧ LvB W n c0 r r F) ∨ (x = 0 ∧ (∀ c, F c = -1 ∨ (0 ≤ F c ∧ F c ≤ 1000 ∧ Rc W n c0 (F c).toNat c)) ∧ Done W n c0 F) at hI
  have rd : rs s 309 p 309 (l * 20 + t) = F (sc W l t) := by rw [rs_same]; exact hF l t hl ht
  have fb : -1 ≤ F (sc W l t) ∧ F (sc W l t) ≤ 1000 := by
    rcases hI with ⟨_, h1, _⟩ | ⟨_, h1, _⟩
    · rcases h1 (sc W l t) with w1 | w1 <;> omega
    · rcases h1 (sc W l t) with w1 | w1 <;> omega
  have e89 : ∀ (hS : SpA W n c0 (sc W l t) (if F (sc W l t) < 0 then -2 else F (sc W l t))), ∃ q' a, qTv_leastRides_89 (z + 308) (J (l * 20 + t)) (hi z TD g w (rs s 309 p)) = rI (J a) (hi z TD g w (rs s 309 q')) ∧ SpA W n c0 (sc W l t) a := fun hS => by
    refine ⟨p, _, ?_, hS⟩
    unfold qTv_leastRides_89
    simp (disch := first | assumption | omega) only [↓gR_D0, ↓gR_D1, ↓gR_D2, ↓gR_D3, ↓gR_D4, ↓gR_D5, ↓gR_D6, ↓gR_D7, ↓gR_D8, ↓gR_D9, ↓gR_D10, ↓gI_D11, ↓pV_D11, ↓isO_D, ↓gI_T0, ↓pV_T0, ↓gR_T1, ↓isO_T, ↓rd_T2, ↓wr_T2, ↓gI_U0, ↓pV_U0, ↓gR_U1, ↓isO_U, ↓rd_U2, ↓wr_U2, ↓gI_Ps0, ↓pV_Ps0, ↓gI_Ps1, ↓pV_Ps1, ↓gI_Ps2, ↓pV_Ps2, ↓gI_Ps3, ↓pV_Ps3, ↓gI_Ps4, ↓pV_Ps4, ↓isO_Ps, ↓gI_N0, ↓pV_N0, ↓gI_N1, ↓pV_N1, ↓gI_N2, ↓pV_N2, ↓gI_N3, ↓pV_N3, ↓gR_N4, ↓gR_N5, ↓isO_N, ↓rd_NL, ↓gI_NB0, ↓pV_NB0, ↓gR_NB1, ↓gR_NB2, ↓isO_NB, ↓rd_NC, ↓wr_NC, ↓ln_NC, ↓rd_NP, ↓wr_NP, ↓ln_NP, ↓gI_V0, ↓pV_V0, ↓gI_V1, ↓pV_V1, ↓gI_V2, ↓pV_V2, ↓gI_V3, ↓pV_V3, ↓gR_V4, ↓gR_V5, ↓isO_V, ↓rd_VL, ↓gI_VB0, ↓pV_VB0, ↓gR_VB1, ↓gR_VB2, ↓isO_VB, ↓rd_VC, ↓wr_VC, ↓ln_VC, ↓rd_VP, ↓wr_VP, ↓ln_VP, ↓rd_SL, ↓rd_KP, ↓wr_KP, ↓gI_H0, ↓pV_H0, ↓gI_H1, ↓pV_H1, ↓gR_H2, ↓isO_H, ↓rd_HP, ↓gI_B0, ↓pV_B0, ↓gI_B1, ↓pV_B1, ↓gR_B2, ↓gR_B3, ↓gR_B4, ↓gR_B5, ↓gR_B6, ↓gR_B7, ↓gR_B8, ↓isO_B, ↓rd_B301, ↓wr_B301, ↓ln_B301, ↓rd_B302, ↓wr_B302, ↓ln_B302, ↓rd_B303, ↓wr_B303, ↓ln_B303, ↓rd_B304, ↓wr_B304, ↓ln_B304, ↓rd_B305, ↓wr_B305, ↓ln_B305, ↓rd_B306, ↓wr_B306, ↓ln_B306, ↓rd_B307, ↓wr_B307, ↓ln_B307, ↓gR_Tv, ↓isO_Tv, ↓rd_Tv9, ↓wr_Tv9, ↓ln_Tv9, pV_D11, pV_T0, rd_T2, wr_T2, pV_U0, rd_U2, wr_U2, pV_Ps0, pV_Ps1, pV_Ps2, pV_Ps3, pV_Ps4, pV_N0, pV_N1, pV_N2, pV_N3, rd_NL, pV_NB0, rd_NC, wr_NC, rd_NP, wr_NP, pV_V0, pV_V1, pV_V2, pV_V3, rd_VL, pV_VB0, rd_VC, wr_VC, rd_VP, wr_VP, rd_SL, rd_KP, wr_KP, pV_H0, pV_H1, rd_HP, pV_B0, pV_B1, rd_B301, wr_B301, rd_B302, wr_B302, rd_B303, wr_B303, rd_B304, wr_B304, rd_B305, wr_B305, rd_B306, wr_B306, rd_B307, wr_B307, rd_Tv9, wr_Tv9, J_l, J_neg, J_add, J_sub, J_mul, J_lt, J_le, J_eq, J_div2, J_rem2, J_shl1, J_orp, J_or, J_and, J_shr, J_ushr, J_max, J_min, J_abs, J_b0, ↓b0_ite, ↓b0_ite2, b0_ite, bI_r, bV_r, b01_ite, ite_true, ite_false, rZ_b, K_l, J_long, M_in, rd]
    by_cases h0 : F (sc W l t) < 0
    · rw [if_pos h0, if_pos h0]
    · rw [if_neg h0, if_neg h0]
  show ∃ q' a, qTv_leastRides_50_b (qTv_leastRides_50 N) (z + 308) (z + 6) (z + 300) (J (l * 20 + t)) (J x) (J r) (hi z TD g w (rs s 309 p)) = _ ∧ _
  unfold qTv_leastRides_50_b
  have x01 : 0 ≤ x ∧ x ≤ 1 := by rcases hI with h | h <;> omega
  simp (disch := first | assumption | omega) only [↓gR_D0, ↓gR_D1, ↓gR_D2, ↓gR_D3, ↓gR_D4, ↓gR_D5, ↓gR_D6, ↓gR_D7, ↓gR_D8, ↓gR_D9, ↓gR_D10, ↓gI_D11, ↓pV_D11, ↓isO_D, ↓gI_T0, ↓pV_T0, ↓gR_T1, ↓isO_T, ↓rd_T2, ↓wr_T2, ↓gI_U0, ↓pV_U0, ↓gR_U1, ↓isO_U, ↓rd_U2, ↓wr_U2, ↓gI_Ps0, ↓pV_Ps0, ↓gI_Ps1, ↓pV_Ps1, ↓gI_Ps2, ↓pV_Ps2, ↓gI_Ps3, ↓pV_Ps3, ↓gI_Ps4, ↓pV_Ps4, ↓isO_Ps, ↓gI_N0, ↓pV_N0, ↓gI_N1, ↓pV_N1, ↓gI_N2, ↓pV_N2, ↓gI_N3, ↓pV_N3, ↓gR_N4, ↓gR_N5, ↓isO_N, ↓rd_NL, ↓gI_NB0, ↓pV_NB0, ↓gR_NB1, ↓gR_NB2, ↓isO_NB, ↓rd_NC, ↓wr_NC, ↓ln_NC, ↓rd_NP, ↓wr_NP, ↓ln_NP, ↓gI_V0, ↓pV_V0, ↓gI_V1, ↓pV_V1, ↓gI_V2, ↓pV_V2, ↓gI_V3, ↓pV_V3, ↓gR_V4, ↓gR_V5, ↓isO_V, ↓rd_VL, ↓gI_VB0, ↓pV_VB0, ↓gR_VB1, ↓gR_VB2, ↓isO_VB, ↓rd_VC, ↓wr_VC, ↓ln_VC, ↓rd_VP, ↓wr_VP, ↓ln_VP, ↓rd_SL, ↓rd_KP, ↓wr_KP, ↓gI_H0, ↓pV_H0, ↓gI_H1, ↓pV_H1, ↓gR_H2, ↓isO_H, ↓rd_HP, ↓gI_B0, ↓pV_B0, ↓gI_B1, ↓pV_B1, ↓gR_B2, ↓gR_B3, ↓gR_B4, ↓gR_B5, ↓gR_B6, ↓gR_B7, ↓gR_B8, ↓isO_B, ↓rd_B301, ↓wr_B301, ↓ln_B301, ↓rd_B302, ↓wr_B302, ↓ln_B302, ↓rd_B303, ↓wr_B303, ↓ln_B303, ↓rd_B304, ↓wr_B304, ↓ln_B304, ↓rd_B305, ↓wr_B305, ↓ln_B305, ↓rd_B306, ↓wr_B306, ↓ln_B306, ↓rd_B307, ↓wr_B307, ↓ln_B307, ↓gR_Tv, ↓isO_Tv, ↓rd_Tv9, ↓wr_Tv9, ↓ln_Tv9, pV_D11, pV_T0, rd_T2, wr_T2, pV_U0, rd_U2, wr_U2, pV_Ps0, pV_Ps1, pV_Ps2, pV_Ps3, pV_Ps4, pV_N0, pV_N1, pV_N2, pV_N3, rd_NL, pV_NB0, rd_NC, wr_NC, rd_NP, wr_NP, pV_V0, pV_V1, pV_V2, pV_V3, rd_VL, pV_VB0, rd_VC, wr_VC, rd_VP, wr_VP, rd_SL, rd_KP, wr_KP, pV_H0, pV_H1, rd_HP, pV_B0, pV_B1, rd_B301, wr_B301, rd_B302, wr_B302, rd_B303, wr_B303, rd_B304, wr_B304, rd_B305, wr_B305, rd_B306, wr_B306, rd_B307, wr_B307, rd_Tv9, wr_Tv9, J_l, J_neg, J_add, J_sub, J_mul, J_lt, J_le, J_eq, J_div2, J_rem2, J_shl1, J_orp, J_or, J_and, J_shr, J_ushr, J_max, J_min, J_abs, J_b0, ↓b0_ite, ↓b0_ite2, b0_ite, bI_r, bV_r, b01_ite, ite_true, ite_false, rZ_b, K_l, J_long, M_in, rd]
  rcases hI with ⟨hx, hI⟩ | ⟨hx, h1, hD⟩
  · rw [if_neg (show ¬x = 0 by omega)]
    by_cases h0 : F (sc W l t) < 0
    · rw [if_pos h0]
      by_cases h160 : r < 160
      · rw [if_pos h160]
        obtain ⟨q', F', x', e1, e2, e3, e4⟩ := C_rideOn (z := z) (g := g) (w := w) (r := r) (c0 := c0) hE hr hF ⟨⟨fun c => by
          rcases hI.1 c with w1 | w1
          · exact Or.inl w1
          · exact Or.inr ⟨w1.1, by omega, w1.2.2⟩, hI.2.1, hI.2.2⟩, Or.inl rfl, fun _ c => by
          rcases hI.1 c with w1 | w1 <;> omega, fun q => by omega⟩
        simp (disch := first | assumption | omega) only [↓gR_D0, ↓gR_D1, ↓gR_D2, ↓gR_D3, ↓gR_D4, ↓gR_D5, ↓gR_D6, ↓gR_D7, ↓gR_D8, ↓gR_D9, ↓gR_D10, ↓gI_D11, ↓pV_D11, ↓isO_D, ↓gI_T0, ↓pV_T0, ↓gR_T1, ↓isO_T, ↓rd_T2, ↓wr_T2, ↓gI_U0, ↓pV_U0, ↓gR_U1, ↓isO_U, ↓rd_U2, ↓wr_U2, ↓gI_Ps0, ↓pV_Ps0, ↓gI_Ps1, ↓pV_Ps1, ↓gI_Ps2, ↓pV_Ps2, ↓gI_Ps3, ↓pV_Ps3, ↓gI_Ps4, ↓pV_Ps4, ↓isO_Ps, ↓gI_N0, ↓pV_N0, ↓gI_N1, ↓pV_N1, ↓gI_N2, ↓pV_N2, ↓gI_N3, ↓pV_N3, ↓gR_N4, ↓gR_N5, ↓isO_N, ↓rd_NL, ↓gI_NB0, ↓pV_NB0, ↓gR_NB1, ↓gR_NB2, ↓isO_NB, ↓rd_NC, ↓wr_NC, ↓ln_NC, ↓rd_NP, ↓wr_NP, ↓ln_NP, ↓gI_V0, ↓pV_V0, ↓gI_V1, ↓pV_V1, ↓gI_V2, ↓pV_V2, ↓gI_V3, ↓pV_V3, ↓gR_V4, ↓gR_V5, ↓isO_V, ↓rd_VL, ↓gI_VB0, ↓pV_VB0, ↓gR_VB1, ↓gR_VB2, ↓isO_VB, ↓rd_VC, ↓wr_VC, ↓ln_VC, ↓rd_VP, ↓wr_VP, ↓ln_VP, ↓rd_SL, ↓rd_KP, ↓wr_KP, ↓gI_H0, ↓pV_H0, ↓gI_H1, ↓pV_H1, ↓gR_H2, ↓isO_H, ↓rd_HP, ↓gI_B0, ↓pV_B0, ↓gI_B1, ↓pV_B1, ↓gR_B2, ↓gR_B3, ↓gR_B4, ↓gR_B5, ↓gR_B6, ↓gR_B7, ↓gR_B8, ↓isO_B, ↓rd_B301, ↓wr_B301, ↓ln_B301, ↓rd_B302, ↓wr_B302, ↓ln_B302, ↓rd_B303, ↓wr_B303, ↓ln_B303, ↓rd_B304, ↓wr_B304, ↓ln_B304, ↓rd_B305, ↓wr_B305, ↓ln_B305, ↓rd_B306, ↓wr_B306, ↓ln_B306, ↓rd_B307, ↓wr_B307, ↓ln_B307, ↓gR_Tv, ↓isO_Tv, ↓rd_Tv9, ↓wr_Tv9, ↓ln_Tv9, pV_D11, pV_T0, rd_T2, wr_T2, pV_U0, rd_U2, wr_U2, pV_Ps0, pV_Ps1, pV_Ps2, pV_Ps3, pV_Ps4, pV_N0, pV_N1, pV_N2, pV_N3, rd_NL, pV_NB0, rd_NC, wr_NC, rd_NP, wr_NP, pV_V0, pV_V1, pV_V2, pV_V3, rd_VL, pV_VB0, rd_VC, wr_VC, rd_VP, wr_VP, rd_SL, rd_KP, wr_KP, pV_H0, pV_H1, rd_HP, pV_B0, pV_B1, rd_B301, wr_B301, rd_B302, wr_B302, rd_B303, wr_B303, rd_B304, wr_B304, rd_B305, wr_B305, rd_B306, wr_B306, rd_B307, wr_B307, rd_Tv9, wr_Tv9, J_l, J_neg, J_add, J_sub, J_mul, J_lt, J_le, J_eq, J_div2, J_rem2, J_shl1, J_orp, J_or, J_and, J_shr, J_ushr, J_max, J_min, J_abs, J_b0, ↓b0_ite, ↓b0_ite2, b0_ite, bI_r, bV_r, b01_ite, ite_true, ite_false, rZ_b, K_l, J_long, M_in, e1]
        refine ih (r + 1, x', q', F') ⟨by show 0 ≤ r + 1 ∧ r + 1 ≤ 160; omega, e2, ?_⟩ (by show 160 - (r + 1) < 160 - r; omega)
        show (x' = 1 ∧ LvB W n c0 (r + 1) (r + 1) F') ∨ (x' = 0 ∧ (∀ c, F' c = -1 ∨ (0 ≤ F' c ∧ F' c ≤ 1000 ∧ Rc W n c0 (F' c).toNat c)) ∧ Done W n c0 F')
        rcases e3.2.1 with hx' | hx'
        · refine Or.inr ⟨hx', fun c => ?_, ?_⟩
          · rcases e3.1.1 c with w1 | w1
            · exact Or.inl w1
            · exact Or.inr ⟨w1.1, by omega, w1.2.2.1⟩
          · rw [hx'] at e3
            exact Lv_done hr.1 e3 e4
        · have := e3.2.2.2 hx'
          exact Or.inl ⟨hx', e3.1.1, Lv_up hr.1 e3 e4, by omega⟩
      · have := Vn_160 hn hE.2.1 (fun c => by
          rcases hI.1 c with w1 | w1
          · exact Or.inl w1
          · exact Or.inr ⟨w1.1, w1.2.2.2.2⟩)
        have := hI.2.2
        omega
    · rw [if_neg h0]
      refine e89 ?_
      rw [if_neg h0]
      rcases hI.1 (sc W l t) with w1 | w1
      · omega
      · refine Or.inr ⟨w1.1, w1.2.2.1, fun d hd => ?_⟩
        by_cases hdr : (d : Int) ≤ r
        · exact (hI.2.1 d hdr _ hd).2
        · omega
  · rw [if_pos hx]
    refine e89 ?_
    by_cases h0 : F (sc W l t) < 0
    · rw [if_pos h0]
      exact Or.inl ⟨rfl, fun d hd => by have := hD d _ hd; omega⟩
    · rw [if_neg h0]
      rcases h1 (sc W l t) with w1 | w1
      · omega
      · exact Or.inr ⟨w1.1, w1.2.2, fun d hd => (hD d _ hd).2⟩
theorem C_leastRides (hE : TvE s W n) (hl : 0 ≤ l ∧ l < n) (ht : 0 ≤ t ∧ t < cT W l) (hc : 0 ≤ c0 ∧ c0 < 1600) (hp : 0 < SN W n c0) : ∃ q' a, qTv_leastRides (z + 308) (z + 6) (z + 300) (J c0) (J l) (J t) (hi z TD g w s) = rI (J a) (hi z TD g w (rs s 309 q')) ∧ SpA W n c0 (sc W l t) a := by
  have hn := hE.1
  have bt := (hE.lb l hl.1 hl.2).2.1
  have ef : qJA_fill (z + 309) (J (-1)) (hi z TD g w s) = rV (hi z TD g w (rs s 309 (cns (s 309) 160 (-1)))) := fill_hi rfl (by decide)
  have hF0 : FVq W n (cns (s 309) 160 (-1)) (fun _ => -1) := fun l' t' q1 q2 => by
    have b2 := (hE.lb l' q1.1 q1.2).2.1
    exact cns_in (n := 160) (by omega)
  obtain ⟨q1, e1, e2⟩ := C_reach (z := z) (g := g) (w := w) (c := c0) (v := 0) hE hc hF0
  have hV : Vn (ru (fun _ => (-1 : Int)) c0 0) = Vn (fun _ => -1) + 1 := cnt_ru hc (show (-1 : Int) < 0 by omega) (by omega)
  have hV0 : 0 ≤ Vn (fun _ => -1) := (cnt_bd (by omega)).1
  obtain ⟨q2, a, e3, e4⟩ := C_leastRides50 (z := z) (g := g) (w := w) (c0 := c0) hE hl ht e2 ⟨fun c => by
    rw [ru_at]
    by_cases e : c = c0
    · rw [if_pos e, e]
      exact Or.inr ⟨by omega, by omega, rfl, hc, hp⟩
    · rw [if_neg e]; exact Or.inl rfl, fun d hd c hR => by
    have : d = 0 := by omega
    subst this
    have : c = c0 := hR
    rw [this, ru_same]
    omega, by omega⟩
  refine ⟨q2, a, ?_, e4⟩
  unfold qTv_leastRides
  simp (disch := first | assumption | omega) only [↓gR_D0, ↓gR_D1, ↓gR_D2, ↓gR_D3, ↓gR_D4, ↓gR_D5, ↓gR_D6, ↓gR_D7, ↓gR_D8, ↓gR_D9, ↓gR_D10, ↓gI_D11, ↓pV_D11, ↓isO_D, ↓gI_T0, ↓pV_T0, ↓gR_T1, ↓isO_T, ↓rd_T2, ↓wr_T2, ↓gI_U0, ↓pV_U0, ↓gR_U1, ↓isO_U, ↓rd_U2, ↓wr_U2, ↓gI_Ps0, ↓pV_Ps0, ↓gI_Ps1, ↓pV_Ps1, ↓gI_Ps2, ↓pV_Ps2, ↓gI_Ps3, ↓pV_Ps3, ↓gI_Ps4, ↓pV_Ps4, ↓isO_Ps, ↓gI_N0, ↓pV_N0, ↓gI_N1, ↓pV_N1, ↓gI_N2, ↓pV_N2, ↓gI_N3, ↓pV_N3, ↓gR_N4, ↓gR_N5, ↓isO_N, ↓rd_NL, ↓gI_NB0, ↓pV_NB0, ↓gR_NB1, ↓gR_NB2, ↓isO_NB, ↓rd_NC, ↓wr_NC, ↓ln_NC, ↓rd_NP, ↓wr_NP, ↓ln_NP, ↓gI_V0, ↓pV_V0, ↓gI_V1, ↓pV_V1, ↓gI_V2, ↓pV_V2, ↓gI_V3, ↓pV_V3, ↓gR_V4, ↓gR_V5, ↓isO_V, ↓rd_VL, ↓gI_VB0, ↓pV_VB0, ↓gR_VB1, ↓gR_VB2, ↓isO_VB, ↓rd_VC, ↓wr_VC, ↓ln_VC, ↓rd_VP, ↓wr_VP, ↓ln_VP, ↓rd_SL, ↓rd_KP, ↓wr_KP, ↓gI_H0, ↓pV_H0, ↓gI_H1, ↓pV_H1, ↓gR_H2, ↓isO_H, ↓rd_HP, ↓gI_B0, ↓pV_B0, ↓gI_B1, ↓pV_B1, ↓gR_B2, ↓gR_B3, ↓gR_B4, ↓gR_B5, ↓gR_B6, ↓gR_B7, ↓gR_B8, ↓isO_B, ↓rd_B301, ↓wr_B301, ↓ln_B301, ↓rd_B302, ↓wr_B302, ↓ln_B302, ↓rd_B303, ↓wr_B303, ↓ln_B303, ↓rd_B304, ↓wr_B304, ↓ln_B304, ↓rd_B305, ↓wr_B305, ↓ln_B305, ↓rd_B306, ↓wr_B306, ↓ln_B306, ↓rd_B307, ↓wr_B307, ↓ln_B307, ↓gR_Tv, ↓isO_Tv, ↓rd_Tv9, ↓wr_Tv9, ↓ln_Tv9, pV_D11, pV_T0, rd_T2, wr_T2, pV_U0, rd_U2, wr_U2, pV_Ps0, pV_Ps1, pV_Ps2, pV_Ps3, pV_Ps4, pV_N0, pV_N1, pV_N2, pV_N3, rd_NL, pV_NB0, rd_NC, wr_NC, rd_NP, wr_NP, pV_V0, pV_V1, pV_V2, pV_V3, rd_VL, pV_VB0, rd_VC, wr_VC, rd_VP, wr_VP, rd_SL, rd_KP, wr_KP, pV_H0, pV_H1, rd_HP, pV_B0, pV_B1, rd_B301, wr_B301, rd_B302, wr_B302, rd_B303, wr_B303, rd_B304, wr_B304, rd_B305, wr_B305, rd_B306, wr_B306, rd_B307, wr_B307, rd_Tv9, wr_Tv9, J_l, J_neg, J_add, J_sub, J_mul, J_lt, J_le, J_eq, J_div2, J_rem2, J_shl1, J_orp, J_or, J_and, J_shr, J_ushr, J_max, J_min, J_abs, J_b0, ↓b0_ite, ↓b0_ite2, b0_ite, bI_r, bV_r, b01_ite, ite_true, ite_false, rZ_b, K_l, J_long, M_in]
  rw [if_neg (show ¬l * 20 + t < 0 by omega), if_pos (show l * 20 + t < 160 by omega)]
  simp (disch := first | assumption | omega) only [↓gR_D0, ↓gR_D1, ↓gR_D2, ↓gR_D3, ↓gR_D4, ↓gR_D5, ↓gR_D6, ↓gR_D7, ↓gR_D8, ↓gR_D9, ↓gR_D10, ↓gI_D11, ↓pV_D11, ↓isO_D, ↓gI_T0, ↓pV_T0, ↓gR_T1, ↓isO_T, ↓rd_T2, ↓wr_T2, ↓gI_U0, ↓pV_U0, ↓gR_U1, ↓isO_U, ↓rd_U2, ↓wr_U2, ↓gI_Ps0, ↓pV_Ps0, ↓gI_Ps1, ↓pV_Ps1, ↓gI_Ps2, ↓pV_Ps2, ↓gI_Ps3, ↓pV_Ps3, ↓gI_Ps4, ↓pV_Ps4, ↓isO_Ps, ↓gI_N0, ↓pV_N0, ↓gI_N1, ↓pV_N1, ↓gI_N2, ↓pV_N2, ↓gI_N3, ↓pV_N3, ↓gR_N4, ↓gR_N5, ↓isO_N, ↓rd_NL, ↓gI_NB0, ↓pV_NB0, ↓gR_NB1, ↓gR_NB2, ↓isO_NB, ↓rd_NC, ↓wr_NC, ↓ln_NC, ↓rd_NP, ↓wr_NP, ↓ln_NP, ↓gI_V0, ↓pV_V0, ↓gI_V1, ↓pV_V1, ↓gI_V2, ↓pV_V2, ↓gI_V3, ↓pV_V3, ↓gR_V4, ↓gR_V5, ↓isO_V, ↓rd_VL, ↓gI_VB0, ↓pV_VB0, ↓gR_VB1, ↓gR_VB2, ↓isO_VB, ↓rd_VC, ↓wr_VC, ↓ln_VC, ↓rd_VP, ↓wr_VP, ↓ln_VP, ↓rd_SL, ↓rd_KP, ↓wr_KP, ↓gI_H0, ↓pV_H0, ↓gI_H1, ↓pV_H1, ↓gR_H2, ↓isO_H, ↓rd_HP, ↓gI_B0, ↓pV_B0, ↓gI_B1, ↓pV_B1, ↓gR_B2, ↓gR_B3, ↓gR_B4, ↓gR_B5, ↓gR_B6, ↓gR_B7, ↓gR_B8, ↓isO_B, ↓rd_B301, ↓wr_B301, ↓ln_B301, ↓rd_B302, ↓wr_B302, ↓ln_B302, ↓rd_B303, ↓wr_B303, ↓ln_B303, ↓rd_B304, ↓wr_B304, ↓ln_B304, ↓rd_B305, ↓wr_B305, ↓ln_B305, ↓rd_B306, ↓wr_B306, ↓ln_B306, ↓rd_B307, ↓wr_B307, ↓ln_B307, ↓gR_Tv, ↓isO_Tv, ↓rd_Tv9, ↓wr_Tv9, ↓ln_Tv9, pV_D11, pV_T0, rd_T2, wr_T2, pV_U0, rd_U2, wr_U2, pV_Ps0, pV_Ps1, pV_Ps2, pV_Ps3, pV_Ps4, pV_N0, pV_N1, pV_N2, pV_N3, rd_NL, pV_NB0, rd_NC, wr_NC, rd_NP, wr_NP, pV_V0, pV_V1, pV_V2, pV_V3, rd_VL, pV_VB0, rd_VC, wr_VC, rd_VP, wr_VP, rd_SL, rd_KP, wr_KP, pV_H0, pV_H1, rd_HP, pV_B0, pV_B1, rd_B301, wr_B301, rd_B302, wr_B302, rd_B303, wr_B303, rd_B304, wr_B304, rd_B305, wr_B305, rd_B306, wr_B306, rd_B307, wr_B307, rd_Tv9, wr_Tv9, J_l, J_neg, J_add, J_sub, J_mul, J_lt, J_le, J_eq, J_div2, J_rem2, J_shl1, J_orp, J_or, J_and, J_shr, J_ushr, J_max, J_min, J_abs, J_b0, ↓b0_ite, ↓b0_ite2, b0_ite, bI_r, bV_r, b01_ite, ite_true, ite_false, rZ_b, K_l, J_long, M_in, ef, e1, e3]
end RD
