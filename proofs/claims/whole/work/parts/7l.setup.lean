/-! the setup text -/
section ST
variable {z y : Nat} {g g' : XH} {w w' : Int64} {s s' s0 s1 s2 m m' m0 m1 m2 : CT} {G W W' V W1 row row' r0 nm lo lg sn f : Int → Int} {wd hg mt c i j l n p v t k x xx yy N q o to : Int} {a b : Nat} {h : XH}
variable {k r u e d B hg' : Int} {L l0 l1 : List Int} {kk : Nat}
theorem twl0 : (twI 0).length = 5 := rfl
theorem twl1 : (twI 1).length = 5 := rfl
theorem twl2 : (twI 2).length = 5 := rfl
theorem twl3 : (twI 3).length = 5 := rfl
theorem twl4 : (twI 4).length = 6 := rfl
theorem twl5 : (twI 5).length = 3 := rfl
def ptB (W : Int → Int) (l : Int) : Nat → List Int
  | 0 => []
  | p + 1 => ptB W l p ++ ([32, 97, 116] ++ (32 :: numB (cX W l p) ++ 32 :: numB (cY W l p)))
def lnB (W nm : Int → Int) (l : Int) : List Int := [108, 105, 110, 101, 32] ++ (nmP (nm l) 6 ++ ([32, 115, 105, 122, 101] ++ (32 :: numB (cZ W l) ++ ([32, 115, 116, 111, 112, 115] ++ (32 :: numB (cT W l) ++ (ptB W l (cN W l).toNat ++ [59]))))))
def hdB (wd hg mt : Int) : List Int := [98, 111, 97, 114, 100] ++ (32 :: numB wd ++ (32 :: numB hg ++ ([32, 116, 117, 114, 110] ++ (32 :: numB mt ++ [59]))))
def alB (W nm : Int → Int) (wd hg mt : Int) : Nat → List Int
  | 0 => hdB wd hg mt
  | l + 1 => alB W nm wd hg mt l ++ lnB W nm l
theorem ptB_len : ∀ p : Nat, (ptB W l p).length ≤ 9 * p := by
  intro p
  induction p with
  | zero => exact Nat.le_refl 0
  | succ p ih =>
    have a1 := numB_len (v := cX W l p)
    have a2 := numB_len (v := cY W l p)
    show (ptB W l p ++ ([32, 97, 116] ++ (32 :: numB (cX W l p) ++ 32 :: numB (cY W l p)))).length ≤ 9 * (p + 1)
    simp only [List.length_append, List.length_cons, List.length_nil]
    omega
theorem lnB_len (hN : cN W l ≤ 10) : (lnB W nm l).length ≤ 119 := by
  have a1 := numB_len (v := cZ W l)
  have a2 := numB_len (v := cT W l)
  have a3 := nmP_len (v := nm l) 6
  have a4 := ptB_len (W := W) (l := l) (cN W l).toNat
  unfold lnB
  simp only [List.length_append, List.length_cons, List.length_nil]
  omega
theorem hdB_len : (hdB wd hg mt).length ≤ 23 := by
  have a1 := numB_len (v := wd)
  have a2 := numB_len (v := hg)
  have a3 := numB_len (v := mt)
  unfold hdB
  simp only [List.length_append, List.length_cons, List.length_nil]
  omega
theorem alB_len (hN : ∀ l, 0 ≤ l → l < n → cN W l ≤ 10) : ∀ k : Nat, (k : Int) ≤ n → (alB W nm wd hg mt k).length ≤ 23 + 119 * k := by
  intro k
  induction k with
  | zero => intro _; exact hdB_len
  | succ k ih =>
    intro h
    have a1 := ih (by omega)
    have a2 := lnB_len (nm := nm) (hN k (by omega) (by omega))
    show (alB W nm wd hg mt k ++ lnB W nm k).length ≤ 23 + 119 * (k + 1)
    rw [List.length_append]
    omega
/-- a line's rows under a text -/
theorem LV_tx (h : TxC L s0 s) (hs : LV s0 a W l) (ha : 4 < a) : LV s a W l := by
  unfold LV at *
  rw [h.1 a (by omega) (by omega), h.1 (a + 1) (by omega) (by omega), h.1 (a + 2) (by omega) (by omega)]
  exact hs
theorem C_describePoints (hg : GT g z) (ha : isLn TD a) (ha4 : 4 < a) (hv : LV s0 a W l) (hb : LB W l) (hT : TxC L s0 s) (hL : L.length + 91 ≤ 1000) : ∃ s', qP_describeLine_44 LF (z + a) (z + 3) (J 0) (hi z TD g w s) = rV (hi z TD g w s') ∧ TxC (L ++ (ptB W l (cN W l).toNat ++ [59])) s0 s' := by
  have b1 := hb.1
  obtain ⟨a5, x1, x2⟩ := str_ex (w := w) (kk := 5) hg (by omega)
  change ∀ (s : CT) (K : Nat → XR), gS (hi z TD g w s) 15 K = K a5 at x1
  refine loopI (S := Nat × CT) (fun N q => qP_describeLine_44 N (z + a) (z + 3) (J q.1) (hi z TD g w q.2)) (fun X => ∃ s', X = rV (hi z TD g w s') ∧ TxC (L ++ (ptB W l (cN W l).toNat ++ [59])) s0 s') (fun q => q.1 ≤ (cN W l).toNat ∧ TxC (L ++ ptB W l q.1) s0 q.2) (fun q => cN W l - q.1) (by intro q hq; omega) (fun N q hq ih => ?_) (0, s) ⟨Nat.zero_le _, by show TxC (L ++ ptB W l 0) s0 s; rw [show ptB W l 0 = [] from rfl, List.append_nil]; exact hT⟩ (by show cN W l - ((0 : Nat) : Int) < 20000; omega)
  obtain ⟨p, s1⟩ := q
  obtain ⟨hp, hT1⟩ := hq
  change p ≤ (cN W l).toNat at hp
  change TxC (L ++ ptB W l p) s0 s1 at hT1
  have pl := ptB_len (W := W) (l := l) p
  have ll : (L ++ ptB W l p).length ≤ L.length + 9 * p := by rw [List.length_append]; omega
  have v1 := LV_tx hT1 hv ha4
  have n1 := v1.1
  show ∃ s', qP_describeLine_44_b (qP_describeLine_44 N) (z + a) (z + 3) (J p) (hi z TD g w s1) = _ ∧ _
  unfold qP_describeLine_44_b
  simp (disch := first | assumption | omega) only [↓gR_D0, ↓gR_D1, ↓gR_D2, ↓gR_D3, ↓gR_D4, ↓gR_D5, ↓gR_D6, ↓gR_D7, ↓gR_D8, ↓gR_D9, ↓gR_D10, ↓gI_D11, ↓pV_D11, ↓isO_D, ↓gI_T0, ↓pV_T0, ↓gR_T1, ↓isO_T, ↓rd_T2, ↓wr_T2, ↓gI_U0, ↓pV_U0, ↓gR_U1, ↓isO_U, ↓rd_U2, ↓wr_U2, ↓gI_Ps0, ↓pV_Ps0, ↓gI_Ps1, ↓pV_Ps1, ↓gI_Ps2, ↓pV_Ps2, ↓gI_Ps3, ↓pV_Ps3, ↓gI_Ps4, ↓pV_Ps4, ↓isO_Ps, ↓gI_N0, ↓pV_N0, ↓gI_N1, ↓pV_N1, ↓gI_N2, ↓pV_N2, ↓gI_N3, ↓pV_N3, ↓gR_N4, ↓gR_N5, ↓isO_N, ↓rd_NL, ↓gI_NB0, ↓pV_NB0, ↓gR_NB1, ↓gR_NB2, ↓isO_NB, ↓rd_NC, ↓wr_NC, ↓ln_NC, ↓rd_NP, ↓wr_NP, ↓ln_NP, ↓gI_V0, ↓pV_V0, ↓gI_V1, ↓pV_V1, ↓gI_V2, ↓pV_V2, ↓gI_V3, ↓pV_V3, ↓gR_V4, ↓gR_V5, ↓isO_V, ↓rd_VL, ↓gI_VB0, ↓pV_VB0, ↓gR_VB1, ↓gR_VB2, ↓isO_VB, ↓rd_VC, ↓wr_VC, ↓ln_VC, ↓rd_VP, ↓wr_VP, ↓ln_VP, ↓rd_SL, ↓rd_KP, ↓wr_KP, ↓gI_H0, ↓pV_H0, ↓gI_H1, ↓pV_H1, ↓gR_H2, ↓isO_H, ↓rd_HP, ↓gI_B0, ↓pV_B0, ↓gI_B1, ↓pV_B1, ↓gR_B2, ↓gR_B3, ↓gR_B4, ↓gR_B5, ↓gR_B6, ↓gR_B7, ↓gR_B8, ↓isO_B, ↓rd_B301, ↓wr_B301, ↓ln_B301, ↓rd_B302, ↓wr_B302, ↓ln_B302, ↓rd_B303, ↓wr_B303, ↓ln_B303, ↓rd_B304, ↓wr_B304, ↓ln_B304, ↓rd_B305, ↓wr_B305, ↓ln_B305, ↓rd_B306, ↓wr_B306, ↓ln_B306, ↓rd_B307, ↓wr_B307, ↓ln_B307, ↓gR_Tv, ↓isO_Tv, ↓rd_Tv9, ↓wr_Tv9, ↓ln_Tv9, pV_D11, pV_T0, rd_T2, wr_T2, pV_U0, rd_U2, wr_U2, pV_Ps0, pV_Ps1, pV_Ps2, pV_Ps3, pV_Ps4, pV_N0, pV_N1, pV_N2, pV_N3, rd_NL, pV_NB0, rd_NC, wr_NC, rd_NP, wr_NP, pV_V0, pV_V1, pV_V2, pV_V3, rd_VL, pV_VB0, rd_VC, wr_VC, rd_VP, wr_VP, rd_SL, rd_KP, wr_KP, pV_H0, pV_H1, rd_HP, pV_B0, pV_B1, rd_B301, wr_B301, rd_B302, wr_B302, rd_B303, wr_B303, rd_B304, wr_B304, rd_B305, wr_B305, rd_B306, wr_B306, rd_B307, wr_B307, rd_Tv9, wr_Tv9, ↓isO_L, ↓gI_L0, ↓pV_L0, ↓gI_L1, ↓pV_L1, ↓gI_L2, ↓pV_L2, ↓gI_L3, ↓pV_L3, ↓gR_L4, ↓rd_L4, ↓wr_L4, ↓gR_L5, ↓rd_L5, ↓wr_L5, pV_L0, pV_L1, pV_L2, pV_L3, rd_L4, wr_L4, rd_L5, wr_L5, J_l, J_neg, J_add, J_sub, J_mul, J_lt, J_le, J_eq, J_div2, J_rem2, J_shl1, J_orp, J_or, J_and, J_shr, J_ushr, J_max, J_min, J_abs, J_b0, ↓b0_ite, ↓b0_ite2, b0_ite, bI_r, bV_r, b01_ite, ite_true, ite_false, rZ_b, K_l, J_long, M_in, n1]
  by_cases h0 : (p : Int) < cN W l
  · rw [if_pos h0]
    have hbp := hb.2.2.2 p (by omega) h0
    obtain ⟨s2, e2, h2⟩ := x2 _ s0 s1 hT1 (by omega)
    have l2 : (L ++ ptB W l p ++ twI 5).length ≤ L.length + 9 * p + 3 := by simp only [List.length_append, List.length_cons, List.length_nil, twl0, twl1, twl2, twl3, twl4, twl5]; omega
    have v2 := (LV_tx h2 hv ha4).2.2.2 p (by omega) h0
    obtain ⟨s3, e3, h3⟩ := C_addNumber (z := z) (g := g) (w := w) (v := cX W l p) h2 (by omega) (by omega)
    have nx := numB_len (v := cX W l p)
    have l3 : (L ++ ptB W l p ++ twI 5 ++ 32 :: numB (cX W l p)).length ≤ L.length + 9 * p + 6 := by simp only [List.length_append, List.length_cons, List.length_nil, twl0, twl1, twl2, twl3, twl4, twl5]; omega
    have v3 := (LV_tx h3 hv ha4).2.2.2 p (by omega) h0
    obtain ⟨s4, e4, h4⟩ := C_addNumber (z := z) (g := g) (w := w) (v := cY W l p) h3 (by omega) (by omega)
    simp (disch := first | assumption | omega) only [↓gR_D0, ↓gR_D1, ↓gR_D2, ↓gR_D3, ↓gR_D4, ↓gR_D5, ↓gR_D6, ↓gR_D7, ↓gR_D8, ↓gR_D9, ↓gR_D10, ↓gI_D11, ↓pV_D11, ↓isO_D, ↓gI_T0, ↓pV_T0, ↓gR_T1, ↓isO_T, ↓rd_T2, ↓wr_T2, ↓gI_U0, ↓pV_U0, ↓gR_U1, ↓isO_U, ↓rd_U2, ↓wr_U2, ↓gI_Ps0, ↓pV_Ps0, ↓gI_Ps1, ↓pV_Ps1, ↓gI_Ps2, ↓pV_Ps2, ↓gI_Ps3, ↓pV_Ps3, ↓gI_Ps4, ↓pV_Ps4, ↓isO_Ps, ↓gI_N0, ↓pV_N0, ↓gI_N1, ↓pV_N1, ↓gI_N2, ↓pV_N2, ↓gI_N3, ↓pV_N3, ↓gR_N4, ↓gR_N5, ↓isO_N, ↓rd_NL, ↓gI_NB0, ↓pV_NB0, ↓gR_NB1, ↓gR_NB2, ↓isO_NB, ↓rd_NC, ↓wr_NC, ↓ln_NC, ↓rd_NP, ↓wr_NP, ↓ln_NP, ↓gI_V0, ↓pV_V0, ↓gI_V1, ↓pV_V1, ↓gI_V2, ↓pV_V2, ↓gI_V3, ↓pV_V3, ↓gR_V4, ↓gR_V5, ↓isO_V, ↓rd_VL, ↓gI_VB0, ↓pV_VB0, ↓gR_VB1, ↓gR_VB2, ↓isO_VB, ↓rd_VC, ↓wr_VC, ↓ln_VC, ↓rd_VP, ↓wr_VP, ↓ln_VP, ↓rd_SL, ↓rd_KP, ↓wr_KP, ↓gI_H0, ↓pV_H0, ↓gI_H1, ↓pV_H1, ↓gR_H2, ↓isO_H, ↓rd_HP, ↓gI_B0, ↓pV_B0, ↓gI_B1, ↓pV_B1, ↓gR_B2, ↓gR_B3, ↓gR_B4, ↓gR_B5, ↓gR_B6, ↓gR_B7, ↓gR_B8, ↓isO_B, ↓rd_B301, ↓wr_B301, ↓ln_B301, ↓rd_B302, ↓wr_B302, ↓ln_B302, ↓rd_B303, ↓wr_B303, ↓ln_B303, ↓rd_B304, ↓wr_B304, ↓ln_B304, ↓rd_B305, ↓wr_B305, ↓ln_B305, ↓rd_B306, ↓wr_B306, ↓ln_B306, ↓rd_B307, ↓wr_B307, ↓ln_B307, ↓gR_Tv, ↓isO_Tv, ↓rd_Tv9, ↓wr_Tv9, ↓ln_Tv9, pV_D11, pV_T0, rd_T2, wr_T2, pV_U0, rd_U2, wr_U2, pV_Ps0, pV_Ps1, pV_Ps2, pV_Ps3, pV_Ps4, pV_N0, pV_N1, pV_N2, pV_N3, rd_NL, pV_NB0, rd_NC, wr_NC, rd_NP, wr_NP, pV_V0, pV_V1, pV_V2, pV_V3, rd_VL, pV_VB0, rd_VC, wr_VC, rd_VP, wr_VP, rd_SL, rd_KP, wr_KP, pV_H0, pV_H1, rd_HP, pV_B0, pV_B1, rd_B301, wr_B301, rd_B302, wr_B302, rd_B303, wr_B303, rd_B304, wr_B304, rd_B305, wr_B305, rd_B306, wr_B306, rd_B307, wr_B307, rd_Tv9, wr_Tv9, ↓isO_L, ↓gI_L0, ↓pV_L0, ↓gI_L1, ↓pV_L1, ↓gI_L2, ↓pV_L2, ↓gI_L3, ↓pV_L3, ↓gR_L4, ↓rd_L4, ↓wr_L4, ↓gR_L5, ↓rd_L5, ↓wr_L5, pV_L0, pV_L1, pV_L2, pV_L3, rd_L4, wr_L4, rd_L5, wr_L5, J_l, J_neg, J_add, J_sub, J_mul, J_lt, J_le, J_eq, J_div2, J_rem2, J_shl1, J_orp, J_or, J_and, J_shr, J_ushr, J_max, J_min, J_abs, J_b0, ↓b0_ite, ↓b0_ite2, b0_ite, bI_r, bV_r, b01_ite, ite_true, ite_false, rZ_b, K_l, J_long, M_in, x1, e2, v2.1, e3, v3.2, e4]
    refine ih (p + 1, s4) ⟨by show p + 1 ≤ (cN W l).toNat; omega, ?_⟩ (by show cN W l - ((p + 1 : Nat) : Int) < cN W l - (p : Int); omega)
    show TxC (L ++ (ptB W l p ++ ([32, 97, 116] ++ (32 :: numB (cX W l p) ++ 32 :: numB (cY W l p))))) s0 s4
    rw [List.append_assoc, List.append_assoc, List.append_assoc] at h4
    exact h4
  · rw [if_neg h0]
    obtain ⟨s2, e2, h2⟩ := C_addB (z := z) (g := g) (w := w) (b := 59) hT1 (by omega) (by omega)
    unfold qP_describeLine_84
    simp (disch := first | assumption | omega) only [↓gR_D0, ↓gR_D1, ↓gR_D2, ↓gR_D3, ↓gR_D4, ↓gR_D5, ↓gR_D6, ↓gR_D7, ↓gR_D8, ↓gR_D9, ↓gR_D10, ↓gI_D11, ↓pV_D11, ↓isO_D, ↓gI_T0, ↓pV_T0, ↓gR_T1, ↓isO_T, ↓rd_T2, ↓wr_T2, ↓gI_U0, ↓pV_U0, ↓gR_U1, ↓isO_U, ↓rd_U2, ↓wr_U2, ↓gI_Ps0, ↓pV_Ps0, ↓gI_Ps1, ↓pV_Ps1, ↓gI_Ps2, ↓pV_Ps2, ↓gI_Ps3, ↓pV_Ps3, ↓gI_Ps4, ↓pV_Ps4, ↓isO_Ps, ↓gI_N0, ↓pV_N0, ↓gI_N1, ↓pV_N1, ↓gI_N2, ↓pV_N2, ↓gI_N3, ↓pV_N3, ↓gR_N4, ↓gR_N5, ↓isO_N, ↓rd_NL, ↓gI_NB0, ↓pV_NB0, ↓gR_NB1, ↓gR_NB2, ↓isO_NB, ↓rd_NC, ↓wr_NC, ↓ln_NC, ↓rd_NP, ↓wr_NP, ↓ln_NP, ↓gI_V0, ↓pV_V0, ↓gI_V1, ↓pV_V1, ↓gI_V2, ↓pV_V2, ↓gI_V3, ↓pV_V3, ↓gR_V4, ↓gR_V5, ↓isO_V, ↓rd_VL, ↓gI_VB0, ↓pV_VB0, ↓gR_VB1, ↓gR_VB2, ↓isO_VB, ↓rd_VC, ↓wr_VC, ↓ln_VC, ↓rd_VP, ↓wr_VP, ↓ln_VP, ↓rd_SL, ↓rd_KP, ↓wr_KP, ↓gI_H0, ↓pV_H0, ↓gI_H1, ↓pV_H1, ↓gR_H2, ↓isO_H, ↓rd_HP, ↓gI_B0, ↓pV_B0, ↓gI_B1, ↓pV_B1, ↓gR_B2, ↓gR_B3, ↓gR_B4, ↓gR_B5, ↓gR_B6, ↓gR_B7, ↓gR_B8, ↓isO_B, ↓rd_B301, ↓wr_B301, ↓ln_B301, ↓rd_B302, ↓wr_B302, ↓ln_B302, ↓rd_B303, ↓wr_B303, ↓ln_B303, ↓rd_B304, ↓wr_B304, ↓ln_B304, ↓rd_B305, ↓wr_B305, ↓ln_B305, ↓rd_B306, ↓wr_B306, ↓ln_B306, ↓rd_B307, ↓wr_B307, ↓ln_B307, ↓gR_Tv, ↓isO_Tv, ↓rd_Tv9, ↓wr_Tv9, ↓ln_Tv9, pV_D11, pV_T0, rd_T2, wr_T2, pV_U0, rd_U2, wr_U2, pV_Ps0, pV_Ps1, pV_Ps2, pV_Ps3, pV_Ps4, pV_N0, pV_N1, pV_N2, pV_N3, rd_NL, pV_NB0, rd_NC, wr_NC, rd_NP, wr_NP, pV_V0, pV_V1, pV_V2, pV_V3, rd_VL, pV_VB0, rd_VC, wr_VC, rd_VP, wr_VP, rd_SL, rd_KP, wr_KP, pV_H0, pV_H1, rd_HP, pV_B0, pV_B1, rd_B301, wr_B301, rd_B302, wr_B302, rd_B303, wr_B303, rd_B304, wr_B304, rd_B305, wr_B305, rd_B306, wr_B306, rd_B307, wr_B307, rd_Tv9, wr_Tv9, ↓isO_L, ↓gI_L0, ↓pV_L0, ↓gI_L1, ↓pV_L1, ↓gI_L2, ↓pV_L2, ↓gI_L3, ↓pV_L3, ↓gR_L4, ↓rd_L4, ↓wr_L4, ↓gR_L5, ↓rd_L5, ↓wr_L5, pV_L0, pV_L1, pV_L2, pV_L3, rd_L4, wr_L4, rd_L5, wr_L5, J_l, J_neg, J_add, J_sub, J_mul, J_lt, J_le, J_eq, J_div2, J_rem2, J_shl1, J_orp, J_or, J_and, J_shr, J_ushr, J_max, J_min, J_abs, J_b0, ↓b0_ite, ↓b0_ite2, b0_ite, bI_r, bV_r, b01_ite, ite_true, ite_false, rZ_b, K_l, J_long, M_in, e2]
    refine ⟨s2, rfl, ?_⟩
    rw [List.append_assoc, show p = (cN W l).toNat by omega] at h2
    exact h2
theorem C_describeLine (hg : GT g z) (ha : isLn TD a) (ha4 : 4 < a) (hv : LV s0 a W l) (hnm : s0 a 0 = nm l) (hN : NmOk (nm l)) (hb : LB W l) (hT : TxC L s0 s) (hL : L.length + 125 ≤ 1000) : ∃ s', qP_describeLine (z + a) (z + 3) (hi z TD g w s) = rV (hi z TD g w s') ∧ TxC (L ++ lnB W nm l) s0 s' := by
  obtain ⟨a2, x2, y2⟩ := str_ex (w := w) (kk := 2) hg (by omega)
  obtain ⟨a3, x3, y3⟩ := str_ex (w := w) (kk := 3) hg (by omega)
  obtain ⟨a4, x4, y4⟩ := str_ex (w := w) (kk := 4) hg (by omega)
  change ∀ (s : CT) (K : Nat → XR), gS (hi z TD g w s) 12 K = K a2 at x2
  change ∀ (s : CT) (K : Nat → XR), gS (hi z TD g w s) 13 K = K a3 at x3
  change ∀ (s : CT) (K : Nat → XR), gS (hi z TD g w s) 14 K = K a4 at x4
  have c1 := numB_len (v := cZ W l)
  have c2 := numB_len (v := cT W l)
  have c3 := nmP_len (v := nm l) 6
  have bz := hb.2.2.1
  have bt := hb.2.1
  obtain ⟨s1, e1, h1⟩ := y2 _ s0 s hT (by omega)
  have l1 : (L ++ twI 2).length = L.length + 5 := by simp only [List.length_append, List.length_cons, List.length_nil, twl0, twl1, twl2, twl3, twl4, twl5]
  have n1 : s1 a 0 = nm l := by rw [h1.1 a (by omega) (by omega)]; exact hnm
  obtain ⟨s2, e2, h2⟩ := C_addName (z := z) (g := g) (w := w) (v := nm l) h1 (by omega) hN
  have l2 : (L ++ twI 2 ++ nmP (nm l) 6).length ≤ L.length + 11 := by simp only [List.length_append, List.length_cons, List.length_nil, twl0, twl1, twl2, twl3, twl4, twl5]; omega
  obtain ⟨s3, e3, h3⟩ := y3 _ s0 s2 h2 (by omega)
  have l3 : (L ++ twI 2 ++ nmP (nm l) 6 ++ twI 3).length ≤ L.length + 16 := by simp only [List.length_append, List.length_cons, List.length_nil, twl0, twl1, twl2, twl3, twl4, twl5]; omega
  have v3 := (LV_tx h3 hv ha4).2.2.1
  obtain ⟨s4, e4, h4⟩ := C_addNumber (z := z) (g := g) (w := w) (v := cZ W l) h3 (by omega) (by omega)
  have l4 : (L ++ twI 2 ++ nmP (nm l) 6 ++ twI 3 ++ 32 :: numB (cZ W l)).length ≤ L.length + 19 := by simp only [List.length_append, List.length_cons, List.length_nil, twl0, twl1, twl2, twl3, twl4, twl5]; omega
  obtain ⟨s5, e5, h5⟩ := y4 _ s0 s4 h4 (by omega)
  have l5 : (L ++ twI 2 ++ nmP (nm l) 6 ++ twI 3 ++ 32 :: numB (cZ W l) ++ twI 4).length ≤ L.length + 25 := by simp only [List.length_append, List.length_cons, List.length_nil, twl0, twl1, twl2, twl3, twl4, twl5]; omega
  have v5 := (LV_tx h5 hv ha4).2.1
  obtain ⟨s6, e6, h6⟩ := C_addNumber (z := z) (g := g) (w := w) (v := cT W l) h5 (by omega) (by omega)
  have l6 : (L ++ twI 2 ++ nmP (nm l) 6 ++ twI 3 ++ 32 :: numB (cZ W l) ++ twI 4 ++ 32 :: numB (cT W l)).length ≤ L.length + 28 := by simp only [List.length_append, List.length_cons, List.length_nil, twl0, twl1, twl2, twl3, twl4, twl5]; omega
  obtain ⟨s7, e7, h7⟩ := C_describePoints (z := z) (g := g) (w := w) hg ha ha4 hv hb h6 (by omega)
  refine ⟨s7, ?_, ?_⟩
  · unfold qP_describeLine
    simp (disch := first | assumption | omega) only [↓gR_D0, ↓gR_D1, ↓gR_D2, ↓gR_D3, ↓gR_D4, ↓gR_D5, ↓gR_D6, ↓gR_D7, ↓gR_D8, ↓gR_D9, ↓gR_D10, ↓gI_D11, ↓pV_D11, ↓isO_D, ↓gI_T0, ↓pV_T0, ↓gR_T1, ↓isO_T, ↓rd_T2, ↓wr_T2, ↓gI_U0, ↓pV_U0, ↓gR_U1, ↓isO_U, ↓rd_U2, ↓wr_U2, ↓gI_Ps0, ↓pV_Ps0, ↓gI_Ps1, ↓pV_Ps1, ↓gI_Ps2, ↓pV_Ps2, ↓gI_Ps3, ↓pV_Ps3, ↓gI_Ps4, ↓pV_Ps4, ↓isO_Ps, ↓gI_N0, ↓pV_N0, ↓gI_N1, ↓pV_N1, ↓gI_N2, ↓pV_N2, ↓gI_N3, ↓pV_N3, ↓gR_N4, ↓gR_N5, ↓isO_N, ↓rd_NL, ↓gI_NB0, ↓pV_NB0, ↓gR_NB1, ↓gR_NB2, ↓isO_NB, ↓rd_NC, ↓wr_NC, ↓ln_NC, ↓rd_NP, ↓wr_NP, ↓ln_NP, ↓gI_V0, ↓pV_V0, ↓gI_V1, ↓pV_V1, ↓gI_V2, ↓pV_V2, ↓gI_V3, ↓pV_V3, ↓gR_V4, ↓gR_V5, ↓isO_V, ↓rd_VL, ↓gI_VB0, ↓pV_VB0, ↓gR_VB1, ↓gR_VB2, ↓isO_VB, ↓rd_VC, ↓wr_VC, ↓ln_VC, ↓rd_VP, ↓wr_VP, ↓ln_VP, ↓rd_SL, ↓rd_KP, ↓wr_KP, ↓gI_H0, ↓pV_H0, ↓gI_H1, ↓pV_H1, ↓gR_H2, ↓isO_H, ↓rd_HP, ↓gI_B0, ↓pV_B0, ↓gI_B1, ↓pV_B1, ↓gR_B2, ↓gR_B3, ↓gR_B4, ↓gR_B5, ↓gR_B6, ↓gR_B7, ↓gR_B8, ↓isO_B, ↓rd_B301, ↓wr_B301, ↓ln_B301, ↓rd_B302, ↓wr_B302, ↓ln_B302, ↓rd_B303, ↓wr_B303, ↓ln_B303, ↓rd_B304, ↓wr_B304, ↓ln_B304, ↓rd_B305, ↓wr_B305, ↓ln_B305, ↓rd_B306, ↓wr_B306, ↓ln_B306, ↓rd_B307, ↓wr_B307, ↓ln_B307, ↓gR_Tv, ↓isO_Tv, ↓rd_Tv9, ↓wr_Tv9, ↓ln_Tv9, pV_D11, pV_T0, rd_T2, wr_T2, pV_U0, rd_U2, wr_U2, pV_Ps0, pV_Ps1, pV_Ps2, pV_Ps3, pV_Ps4, pV_N0, pV_N1, pV_N2, pV_N3, rd_NL, pV_NB0, rd_NC, wr_NC, rd_NP, wr_NP, pV_V0, pV_V1, pV_V2, pV_V3, rd_VL, pV_VB0, rd_VC, wr_VC, rd_VP, wr_VP, rd_SL, rd_KP, wr_KP, pV_H0, pV_H1, rd_HP, pV_B0, pV_B1, rd_B301, wr_B301, rd_B302, wr_B302, rd_B303, wr_B303, rd_B304, wr_B304, rd_B305, wr_B305, rd_B306, wr_B306, rd_B307, wr_B307, rd_Tv9, wr_Tv9, ↓isO_L, ↓gI_L0, ↓pV_L0, ↓gI_L1, ↓pV_L1, ↓gI_L2, ↓pV_L2, ↓gI_L3, ↓pV_L3, ↓gR_L4, ↓rd_L4, ↓wr_L4, ↓gR_L5, ↓rd_L5, ↓wr_L5, pV_L0, pV_L1, pV_L2, pV_L3, rd_L4, wr_L4, rd_L5, wr_L5, J_l, J_neg, J_add, J_sub, J_mul, J_lt, J_le, J_eq, J_div2, J_rem2, J_shl1, J_orp, J_or, J_and, J_shr, J_ushr, J_max, J_min, J_abs, J_b0, ↓b0_ite, ↓b0_ite2, b0_ite, bI_r, bV_r, b01_ite, ite_true, ite_false, rZ_b, K_l, J_long, M_in, x2, x3, x4, e1, n1, e2, e3, v3, e4, e5, v5, e6, e7]
  · have ee : L ++ lnB W nm l = L ++ twI 2 ++ nmP (nm l) 6 ++ twI 3 ++ 32 :: numB (cZ W l) ++ twI 4 ++ 32 :: numB (cT W l) ++ (ptB W l (cN W l).toNat ++ [59]) := by
      rw [List.append_assoc, List.append_assoc, List.append_assoc, List.append_assoc, List.append_assoc, List.append_assoc]
      rfl
    rw [ee]
    exact h7
theorem C_describe (hg : GT g z) (hP : PlV s 6 wd hg' mt n nm W) (hw : 0 ≤ wd ∧ wd < 100) (hh : 0 ≤ hg' ∧ hg' < 100) (hm : 0 ≤ mt ∧ mt < 100) (hn : 0 ≤ n ∧ n ≤ 8) (hLB : ∀ l, 0 ≤ l → l < n → LB W l) (hN : ∀ l, 0 ≤ l → l < n → NmOk (nm l)) : ∃ s', qP_describe (z + 6) (z + 3) (hi z TD g w s) = rV (hi z TD g w s') ∧ TxC (alB W nm wd hg' mt n.toNat) s s' := by
  obtain ⟨p1, p2, p3, p4, p5, p6⟩ := hP
  obtain ⟨a0, x0, y0⟩ := str_ex (w := w) (kk := 0) hg (by omega)
  obtain ⟨a1, x1, y1⟩ := str_ex (w := w) (kk := 1) hg (by omega)
  change ∀ (s : CT) (K : Nat → XR), gS (hi z TD g w s) 10 K = K a0 at x0
  change ∀ (s : CT) (K : Nat → XR), gS (hi z TD g w s) 11 K = K a1 at x1
  have c1 := numB_len (v := wd)
  have c2 := numB_len (v := hg')
  have c3 := numB_len (v := mt)
  have h0 : TxC [] s (rs s 3 (ru (s 3) 0 0)) := ⟨fun o o3 _ => rs_ne o3, by rw [rs_same, ru_same]; rfl, fun j hj => absurd hj (Nat.not_lt_zero j)⟩
  obtain ⟨s1, e1, h1⟩ := y0 _ s _ h0 (by decide)
  have f1 : s1 6 0 = wd := by rw [h1.1 6 (by decide) (by decide)]; exact p1
  obtain ⟨s2, e2, h2⟩ := C_addNumber (z := z) (g := g) (w := w) (v := wd) h1 (by decide) hw
  have l2 : ([] ++ twI 0 ++ 32 :: numB wd).length ≤ 8 := by simp only [List.length_append, List.length_cons, List.length_nil, twl0, twl1, twl2, twl3, twl4, twl5]; omega
  have f2 : s2 6 1 = hg' := by rw [h2.1 6 (by decide) (by decide)]; exact p2
  obtain ⟨s3, e3, h3⟩ := C_addNumber (z := z) (g := g) (w := w) (v := hg') h2 (by omega) hh
  have l3 : ([] ++ twI 0 ++ 32 :: numB wd ++ 32 :: numB hg').length ≤ 11 := by simp only [List.length_append, List.length_cons, List.length_nil, twl0, twl1, twl2, twl3, twl4, twl5]; omega
  obtain ⟨s4, e4, h4⟩ := y1 _ s _ h3 (by omega)
  have l4 : ([] ++ twI 0 ++ 32 :: numB wd ++ 32 :: numB hg' ++ twI 1).length ≤ 16 := by simp only [List.length_append, List.length_cons, List.length_nil, twl0, twl1, twl2, twl3, twl4, twl5]; omega
  have f4 : s4 6 2 = mt := by rw [h4.1 6 (by decide) (by decide)]; exact p3
  obtain ⟨s5, e5, h5⟩ := C_addNumber (z := z) (g := g) (w := w) (v := mt) h4 (by omega) hm
  have l5 : ([] ++ twI 0 ++ 32 :: numB wd ++ 32 :: numB hg' ++ twI 1 ++ 32 :: numB mt).length ≤ 19 := by simp only [List.length_append, List.length_cons, List.length_nil, twl0, twl1, twl2, twl3, twl4, twl5]; omega
  obtain ⟨s6, e6, h6⟩ := C_addB (z := z) (g := g) (w := w) (b := 59) h5 (by omega) (by omega)
  have h6' : TxC (alB W nm wd hg' mt 0) s s6 := by
    have ee : alB W nm wd hg' mt 0 = [] ++ twI 0 ++ 32 :: numB wd ++ 32 :: numB hg' ++ twI 1 ++ 32 :: numB mt ++ [59] := by
      rw [List.append_assoc, List.append_assoc, List.append_assoc, List.append_assoc, List.append_assoc]
      rfl
    rw [ee]
    exact h6
  obtain ⟨s7, e7, h7⟩ : ∃ s', qP_describe_49 LF (z + 6) (z + 3) (J 0) (hi z TD g w s6) = rV (hi z TD g w s') ∧ TxC (alB W nm wd hg' mt n.toNat) s s' := by
    refine loopI (S := Nat × CT) (fun N q => qP_describe_49 N (z + 6) (z + 3) (J q.1) (hi z TD g w q.2)) (fun X => ∃ s', X = rV (hi z TD g w s') ∧ TxC (alB W nm wd hg' mt n.toNat) s s') (fun q => q.1 ≤ n.toNat ∧ TxC (alB W nm wd hg' mt q.1) s q.2) (fun q => n - q.1) (by intro q hq; omega) (fun N q hq ih => ?_) (0, s6) ⟨Nat.zero_le _, h6'⟩ (by show n - ((0 : Nat) : Int) < 20000; omega)
    obtain ⟨l, s8⟩ := q
    obtain ⟨hl, hT⟩ := hq
    change l ≤ n.toNat at hl
    change TxC (alB W nm wd hg' mt l) s s8 at hT
    have al := alB_len (W := W) (nm := nm) (wd := wd) (hg := hg') (mt := mt) (n := n) (fun l a b => (hLB l a b).1.2) l (by omega)
    have f8 : s8 6 3 = n := by rw [hT.1 6 (by decide) (by decide)]; exact p4
    show ∃ s', qP_describe_49_b (qP_describe_49 N) (z + 6) (z + 3) (J l) (hi z TD g w s8) = _ ∧ _
    unfold qP_describe_49_b
    simp (disch := first | assumption | omega) only [↓gR_D0, ↓gR_D1, ↓gR_D2, ↓gR_D3, ↓gR_D4, ↓gR_D5, ↓gR_D6, ↓gR_D7, ↓gR_D8, ↓gR_D9, ↓gR_D10, ↓gI_D11, ↓pV_D11, ↓isO_D, ↓gI_T0, ↓pV_T0, ↓gR_T1, ↓isO_T, ↓rd_T2, ↓wr_T2, ↓gI_U0, ↓pV_U0, ↓gR_U1, ↓isO_U, ↓rd_U2, ↓wr_U2, ↓gI_Ps0, ↓pV_Ps0, ↓gI_Ps1, ↓pV_Ps1, ↓gI_Ps2, ↓pV_Ps2, ↓gI_Ps3, ↓pV_Ps3, ↓gI_Ps4, ↓pV_Ps4, ↓isO_Ps, ↓gI_N0, ↓pV_N0, ↓gI_N1, ↓pV_N1, ↓gI_N2, ↓pV_N2, ↓gI_N3, ↓pV_N3, ↓gR_N4, ↓gR_N5, ↓isO_N, ↓rd_NL, ↓gI_NB0, ↓pV_NB0, ↓gR_NB1, ↓gR_NB2, ↓isO_NB, ↓rd_NC, ↓wr_NC, ↓ln_NC, ↓rd_NP, ↓wr_NP, ↓ln_NP, ↓gI_V0, ↓pV_V0, ↓gI_V1, ↓pV_V1, ↓gI_V2, ↓pV_V2, ↓gI_V3, ↓pV_V3, ↓gR_V4, ↓gR_V5, ↓isO_V, ↓rd_VL, ↓gI_VB0, ↓pV_VB0, ↓gR_VB1, ↓gR_VB2, ↓isO_VB, ↓rd_VC, ↓wr_VC, ↓ln_VC, ↓rd_VP, ↓wr_VP, ↓ln_VP, ↓rd_SL, ↓rd_KP, ↓wr_KP, ↓gI_H0, ↓pV_H0, ↓gI_H1, ↓pV_H1, ↓gR_H2, ↓isO_H, ↓rd_HP, ↓gI_B0, ↓pV_B0, ↓gI_B1, ↓pV_B1, ↓gR_B2, ↓gR_B3, ↓gR_B4, ↓gR_B5, ↓gR_B6, ↓gR_B7, ↓gR_B8, ↓isO_B, ↓rd_B301, ↓wr_B301, ↓ln_B301, ↓rd_B302, ↓wr_B302, ↓ln_B302, ↓rd_B303, ↓wr_B303, ↓ln_B303, ↓rd_B304, ↓wr_B304, ↓ln_B304, ↓rd_B305, ↓wr_B305, ↓ln_B305, ↓rd_B306, ↓wr_B306, ↓ln_B306, ↓rd_B307, ↓wr_B307, ↓ln_B307, ↓gR_Tv, ↓isO_Tv, ↓rd_Tv9, ↓wr_Tv9, ↓ln_Tv9, pV_D11, pV_T0, rd_T2, wr_T2, pV_U0, rd_U2, wr_U2, pV_Ps0, pV_Ps1, pV_Ps2, pV_Ps3, pV_Ps4, pV_N0, pV_N1, pV_N2, pV_N3, rd_NL, pV_NB0, rd_NC, wr_NC, rd_NP, wr_NP, pV_V0, pV_V1, pV_V2, pV_V3, rd_VL, pV_VB0, rd_VC, wr_VC, rd_VP, wr_VP, rd_SL, rd_KP, wr_KP, pV_H0, pV_H1, rd_HP, pV_B0, pV_B1, rd_B301, wr_B301, rd_B302, wr_B302, rd_B303, wr_B303, rd_B304, wr_B304, rd_B305, wr_B305, rd_B306, wr_B306, rd_B307, wr_B307, rd_Tv9, wr_Tv9, J_l, J_neg, J_add, J_sub, J_mul, J_lt, J_le, J_eq, J_div2, J_rem2, J_shl1, J_orp, J_or, J_and, J_shr, J_ushr, J_max, J_min, J_abs, J_b0, ↓b0_ite, ↓b0_ite2, b0_ite, bI_r, bV_r, b01_ite, ite_true, ite_false, rZ_b, K_l, J_long, M_in, f8]
    by_cases q0 : (l : Int) < n
    · rw [if_pos q0]
      have hLn := isLn_now (l := l) (by omega)
      have hv := p5 l (by omega) q0
      obtain ⟨s9, e9, h9⟩ := C_describeLine (z := z) (g := g) (w := w) (a := 11 + 3 * (l : Int).toNat) (l := l) (nm := nm) hg hLn (by omega) hv.1 hv.2 (hN l (by omega) q0) (hLB l (by omega) q0) hT (by omega)
      simp (disch := first | assumption | omega) only [↓gR_D0, ↓gR_D1, ↓gR_D2, ↓gR_D3, ↓gR_D4, ↓gR_D5, ↓gR_D6, ↓gR_D7, ↓gR_D8, ↓gR_D9, ↓gR_D10, ↓gI_D11, ↓pV_D11, ↓isO_D, ↓gI_T0, ↓pV_T0, ↓gR_T1, ↓isO_T, ↓rd_T2, ↓wr_T2, ↓gI_U0, ↓pV_U0, ↓gR_U1, ↓isO_U, ↓rd_U2, ↓wr_U2, ↓gI_Ps0, ↓pV_Ps0, ↓gI_Ps1, ↓pV_Ps1, ↓gI_Ps2, ↓pV_Ps2, ↓gI_Ps3, ↓pV_Ps3, ↓gI_Ps4, ↓pV_Ps4, ↓isO_Ps, ↓gI_N0, ↓pV_N0, ↓gI_N1, ↓pV_N1, ↓gI_N2, ↓pV_N2, ↓gI_N3, ↓pV_N3, ↓gR_N4, ↓gR_N5, ↓isO_N, ↓rd_NL, ↓gI_NB0, ↓pV_NB0, ↓gR_NB1, ↓gR_NB2, ↓isO_NB, ↓rd_NC, ↓wr_NC, ↓ln_NC, ↓rd_NP, ↓wr_NP, ↓ln_NP, ↓gI_V0, ↓pV_V0, ↓gI_V1, ↓pV_V1, ↓gI_V2, ↓pV_V2, ↓gI_V3, ↓pV_V3, ↓gR_V4, ↓gR_V5, ↓isO_V, ↓rd_VL, ↓gI_VB0, ↓pV_VB0, ↓gR_VB1, ↓gR_VB2, ↓isO_VB, ↓rd_VC, ↓wr_VC, ↓ln_VC, ↓rd_VP, ↓wr_VP, ↓ln_VP, ↓rd_SL, ↓rd_KP, ↓wr_KP, ↓gI_H0, ↓pV_H0, ↓gI_H1, ↓pV_H1, ↓gR_H2, ↓isO_H, ↓rd_HP, ↓gI_B0, ↓pV_B0, ↓gI_B1, ↓pV_B1, ↓gR_B2, ↓gR_B3, ↓gR_B4, ↓gR_B5, ↓gR_B6, ↓gR_B7, ↓gR_B8, ↓isO_B, ↓rd_B301, ↓wr_B301, ↓ln_B301, ↓rd_B302, ↓wr_B302, ↓ln_B302, ↓rd_B303, ↓wr_B303, ↓ln_B303, ↓rd_B304, ↓wr_B304, ↓ln_B304, ↓rd_B305, ↓wr_B305, ↓ln_B305, ↓rd_B306, ↓wr_B306, ↓ln_B306, ↓rd_B307, ↓wr_B307, ↓ln_B307, ↓gR_Tv, ↓isO_Tv, ↓rd_Tv9, ↓wr_Tv9, ↓ln_Tv9, pV_D11, pV_T0, rd_T2, wr_T2, pV_U0, rd_U2, wr_U2, pV_Ps0, pV_Ps1, pV_Ps2, pV_Ps3, pV_Ps4, pV_N0, pV_N1, pV_N2, pV_N3, rd_NL, pV_NB0, rd_NC, wr_NC, rd_NP, wr_NP, pV_V0, pV_V1, pV_V2, pV_V3, rd_VL, pV_VB0, rd_VC, wr_VC, rd_VP, wr_VP, rd_SL, rd_KP, wr_KP, pV_H0, pV_H1, rd_HP, pV_B0, pV_B1, rd_B301, wr_B301, rd_B302, wr_B302, rd_B303, wr_B303, rd_B304, wr_B304, rd_B305, wr_B305, rd_B306, wr_B306, rd_B307, wr_B307, rd_Tv9, wr_Tv9, J_l, J_neg, J_add, J_sub, J_mul, J_lt, J_le, J_eq, J_div2, J_rem2, J_shl1, J_orp, J_or, J_and, J_shr, J_ushr, J_max, J_min, J_abs, J_b0, ↓b0_ite, ↓b0_ite2, b0_ite, bI_r, bV_r, b01_ite, ite_true, ite_false, rZ_b, K_l, J_long, M_in, e9]
      exact ih (l + 1, s9) ⟨by show l + 1 ≤ n.toNat; omega, h9⟩ (by show n - ((l + 1 : Nat) : Int) < n - (l : Int); omega)
    · rw [if_neg q0]
      refine ⟨s8, rfl, ?_⟩
      rw [show l = n.toNat by omega] at hT
      exact hT
  refine ⟨s7, ?_, h7⟩
  unfold qP_describe
  simp (disch := first | assumption | omega) only [↓gR_D0, ↓gR_D1, ↓gR_D2, ↓gR_D3, ↓gR_D4, ↓gR_D5, ↓gR_D6, ↓gR_D7, ↓gR_D8, ↓gR_D9, ↓gR_D10, ↓gI_D11, ↓pV_D11, ↓isO_D, ↓gI_T0, ↓pV_T0, ↓gR_T1, ↓isO_T, ↓rd_T2, ↓wr_T2, ↓gI_U0, ↓pV_U0, ↓gR_U1, ↓isO_U, ↓rd_U2, ↓wr_U2, ↓gI_Ps0, ↓pV_Ps0, ↓gI_Ps1, ↓pV_Ps1, ↓gI_Ps2, ↓pV_Ps2, ↓gI_Ps3, ↓pV_Ps3, ↓gI_Ps4, ↓pV_Ps4, ↓isO_Ps, ↓gI_N0, ↓pV_N0, ↓gI_N1, ↓pV_N1, ↓gI_N2, ↓pV_N2, ↓gI_N3, ↓pV_N3, ↓gR_N4, ↓gR_N5, ↓isO_N, ↓rd_NL, ↓gI_NB0, ↓pV_NB0, ↓gR_NB1, ↓gR_NB2, ↓isO_NB, ↓rd_NC, ↓wr_NC, ↓ln_NC, ↓rd_NP, ↓wr_NP, ↓ln_NP, ↓gI_V0, ↓pV_V0, ↓gI_V1, ↓pV_V1, ↓gI_V2, ↓pV_V2, ↓gI_V3, ↓pV_V3, ↓gR_V4, ↓gR_V5, ↓isO_V, ↓rd_VL, ↓gI_VB0, ↓pV_VB0, ↓gR_VB1, ↓gR_VB2, ↓isO_VB, ↓rd_VC, ↓wr_VC, ↓ln_VC, ↓rd_VP, ↓wr_VP, ↓ln_VP, ↓rd_SL, ↓rd_KP, ↓wr_KP, ↓gI_H0, ↓pV_H0, ↓gI_H1, ↓pV_H1, ↓gR_H2, ↓isO_H, ↓rd_HP, ↓gI_B0, ↓pV_B0, ↓gI_B1, ↓pV_B1, ↓gR_B2, ↓gR_B3, ↓gR_B4, ↓gR_B5, ↓gR_B6, ↓gR_B7, ↓gR_B8, ↓isO_B, ↓rd_B301, ↓wr_B301, ↓ln_B301, ↓rd_B302, ↓wr_B302, ↓ln_B302, ↓rd_B303, ↓wr_B303, ↓ln_B303, ↓rd_B304, ↓wr_B304, ↓ln_B304, ↓rd_B305, ↓wr_B305, ↓ln_B305, ↓rd_B306, ↓wr_B306, ↓ln_B306, ↓rd_B307, ↓wr_B307, ↓ln_B307, ↓gR_Tv, ↓isO_Tv, ↓rd_Tv9, ↓wr_Tv9, ↓ln_Tv9, pV_D11, pV_T0, rd_T2, wr_T2, pV_U0, rd_U2, wr_U2, pV_Ps0, pV_Ps1, pV_Ps2, pV_Ps3, pV_Ps4, pV_N0, pV_N1, pV_N2, pV_N3, rd_NL, pV_NB0, rd_NC, wr_NC, rd_NP, wr_NP, pV_V0, pV_V1, pV_V2, pV_V3, rd_VL, pV_VB0, rd_VC, wr_VC, rd_VP, wr_VP, rd_SL, rd_KP, wr_KP, pV_H0, pV_H1, rd_HP, pV_B0, pV_B1, rd_B301, wr_B301, rd_B302, wr_B302, rd_B303, wr_B303, rd_B304, wr_B304, rd_B305, wr_B305, rd_B306, wr_B306, rd_B307, wr_B307, rd_Tv9, wr_Tv9, J_l, J_neg, J_add, J_sub, J_mul, J_lt, J_le, J_eq, J_div2, J_rem2, J_shl1, J_orp, J_or, J_and, J_shr, J_ushr, J_max, J_min, J_abs, J_b0, ↓b0_ite, ↓b0_ite2, b0_ite, bI_r, bV_r, b01_ite, ite_true, ite_false, rZ_b, K_l, J_long, M_in, x0, x1, e1, f1, e2, f2, e3, e4, f4, e5, e6, e7]
/-! the model -/
theorem M_pair {l : List Int} (h : TxM l i m0 m) (hl : l.length + 12 < 2000) (hi0 : -2147483648 ≤ i ∧ i < 2147483648) (hv : 0 ≤ v ∧ v < 9223372036854775808) (hu : 0 ≤ u ∧ u < 100) : ∃ m', qM_saysPair y (K v) (J u) (hi y TM g w m) = rV (hi y TM g w m') ∧ TxM (l ++ wdP v 8 ++ 32 :: numB u) i m0 m' := by
  have w8 := wdP_len (v := v) 8
  obtain ⟨m1, e1, h1⟩ := M_word (y := y) (g := g) (w := w) h (by omega) hi0 hv
  have l1 : (l ++ wdP v 8).length ≤ l.length + 8 := by simp only [List.length_append, List.length_cons, List.length_nil, twl0, twl1, twl2, twl3, twl4, twl5]; omega
  obtain ⟨m2, e2, h2⟩ := M_sayB (y := y) (g := g) (w := w) (b := 32) h1 (by omega) hi0
  have l2 : (l ++ wdP v 8 ++ [32]).length ≤ l.length + 9 := by simp only [List.length_append, List.length_cons, List.length_nil, twl0, twl1, twl2, twl3, twl4, twl5]; omega
  obtain ⟨m3, e3, h3⟩ := M_number (y := y) (g := g) (w := w) h2 (by omega) hi0 hu
  refine ⟨m3, ?_, ?_⟩
  · unfold qM_saysPair
    simp (disch := omega) only [↓isO_M, ↓gL_H, ↓pL_H, ↓gI_M1, ↓gI_M2, ↓gI_M3, ↓gI_M4, ↓gI_M5, ↓gI_M6, ↓gI_M13, ↓gI_M22, ↓gI_M23, ↓gI_M24, ↓gI_M25, ↓gI_M27, ↓gI_M28, ↓gI_M29, ↓gI_M30, ↓gI_M31, ↓gI_M32, ↓gI_M33, ↓gI_M34, ↓gI_M35, ↓gI_M40, ↓gI_M41, ↓gI_M42, ↓gI_M43, ↓pV_M1, ↓pV_M2, ↓pV_M3, ↓pV_M4, ↓pV_M5, ↓pV_M6, ↓pV_M13, ↓pV_M22, ↓pV_M23, ↓pV_M24, ↓pV_M25, ↓pV_M27, ↓pV_M28, ↓pV_M29, ↓pV_M30, ↓pV_M31, ↓pV_M32, ↓pV_M33, ↓pV_M34, ↓pV_M35, ↓pV_M40, ↓pV_M41, ↓pV_M42, ↓pV_M43, ↓gR_M0, ↓gR_M7, ↓gR_M8, ↓gR_M9, ↓gR_M10, ↓gR_M11, ↓gR_M12, ↓gR_M14, ↓gR_M15, ↓gR_M16, ↓gR_M17, ↓gR_M18, ↓gR_M19, ↓gR_M20, ↓gR_M21, ↓gR_M36, ↓gR_M37, ↓gR_M38, ↓gR_M39, ↓rd_M1, ↓rd_M2, ↓rd_M3, ↓rd_M4, ↓rd_M5, ↓rd_M6, ↓rd_M7, ↓rd_M8, ↓rd_M9, ↓rd_M10, ↓rd_M11, ↓rd_M12, ↓rd_M13, ↓rd_M14, ↓rd_M15, ↓rd_M16, ↓rd_M17, ↓rd_M18, ↓rd_M19, ↓wr_M1, ↓wr_M2, ↓wr_M3, ↓wr_M4, ↓wr_M5, ↓wr_M6, ↓wr_M7, ↓wr_M8, ↓wr_M9, ↓wr_M10, ↓wr_M11, ↓wr_M12, ↓wr_M13, ↓wr_M14, ↓wr_M15, ↓wr_M16, ↓wr_M17, ↓wr_M18, ↓wr_M19, pL_H, pV_M1, pV_M2, pV_M3, pV_M4, pV_M5, pV_M6, pV_M13, pV_M22, pV_M23, pV_M24, pV_M25, pV_M27, pV_M28, pV_M29, pV_M30, pV_M31, pV_M32, pV_M33, pV_M34, pV_M35, pV_M40, pV_M41, pV_M42, pV_M43, rd_M1, rd_M2, rd_M3, rd_M4, rd_M5, rd_M6, rd_M7, rd_M8, rd_M9, rd_M10, rd_M11, rd_M12, rd_M13, rd_M14, rd_M15, rd_M16, rd_M17, rd_M18, rd_M19, wr_M1, wr_M2, wr_M3, wr_M4, wr_M5, wr_M6, wr_M7, wr_M8, wr_M9, wr_M10, wr_M11, wr_M12, wr_M13, wr_M14, wr_M15, wr_M16, wr_M17, wr_M18, wr_M19, J_l, J_neg, J_add, J_sub, J_mul, J_lt, J_le, J_eq, J_div2, J_rem2, J_shl1, J_orp, J_or, J_and, J_shr, J_ushr, J_max, J_min, J_abs, J_b0, ↓b0_ite, ↓b0_ite2, b0_ite, bI_r, bV_r, b01_ite, ite_true, ite_false, rZ_b, K_l, J_long, M_in, e1, e2, e3]
  · rw [List.append_assoc (l ++ wdP v 8)] at h3
    exact h3
theorem TxM_3 {l : List Int} (h : TxM l i m0 m) : m 3 = m0 3 ∧ m 2 = m0 2 ∧ ∀ j, j ≠ 41 → j ≠ 42 → j ≠ 43 → m 0 j = m0 0 j := ⟨h.1 3 (by decide), h.1 2 (by decide), h.2.1⟩
theorem M_sayPoints {l : Int} (h3 : m0 3 = W) (hl : 0 ≤ l ∧ l < 8) (hb : LB W l) (hT : TxM L i m0 m) (hL : L.length + 91 ≤ 1100) (hi0 : -2147483648 ≤ i ∧ i < 2147483648) : ∃ m', qM_saysLine_64 LF y (J l) (J 0) (hi y TM g w m) = rV (hi y TM g w m') ∧ TxM (L ++ (ptB W l (cN W l).toNat ++ [59])) i m0 m' := by
  have b1 := hb.1
  have wat : wdP 52 8 = [97, 116] := by decide +kernel
  refine loopI (S := Nat × CT) (fun N q => qM_saysLine_64 N y (J l) (J q.1) (hi y TM g w q.2)) (fun X => ∃ m', X = rV (hi y TM g w m') ∧ TxM (L ++ (ptB W l (cN W l).toNat ++ [59])) i m0 m') (fun q => q.1 ≤ (cN W l).toNat ∧ TxM (L ++ ptB W l q.1) i m0 q.2) (fun q => cN W l - q.1) (by intro q hq; omega) (fun N q hq ih => ?_) (0, m) ⟨Nat.zero_le _, by show TxM (L ++ ptB W l 0) i m0 m; rw [show ptB W l 0 = [] from rfl, List.append_nil]; exact hT⟩ (by show cN W l - ((0 : Nat) : Int) < 20000; omega)
  obtain ⟨p, m1⟩ := q
  obtain ⟨hp, hT1⟩ := hq
  change p ≤ (cN W l).toNat at hp
  change TxM (L ++ ptB W l p) i m0 m1 at hT1
  have pl := ptB_len (W := W) (l := l) p
  have ll : (L ++ ptB W l p).length ≤ L.length + 9 * p := by rw [List.length_append]; omega
  have oN : ∀ {m1 : CT} {l1 : List Int}, TxM l1 i m0 m1 → qM_of y (J l) (J 2) (hi y TM g w m1) = rI (J (cN W l)) (hi y TM g w m1) := fun {m1 l1} q => by
    have := M_oN (y := y) (g := g) (w := w) (m := m1) hl
    rw [(TxM_3 q).1, h3] at this
    exact this
  have oX : ∀ {m1 : CT} {l1 : List Int}, TxM l1 i m0 m1 → (p : Int) < cN W l → qM_px y (J l) (J p) (hi y TM g w m1) = rI (J (cX W l p)) (hi y TM g w m1) := fun {m1 l1} q qp => by
    have := M_px (y := y) (g := g) (w := w) (m := m1) (l := l) (p := p) (by omega)
    rw [(TxM_3 q).1, h3] at this
    exact this
  have oY : ∀ {m1 : CT} {l1 : List Int}, TxM l1 i m0 m1 → (p : Int) < cN W l → qM_py y (J l) (J p) (hi y TM g w m1) = rI (J (cY W l p)) (hi y TM g w m1) := fun {m1 l1} q qp => by
    have := M_py (y := y) (g := g) (w := w) (m := m1) (l := l) (p := p) (by omega)
    rw [(TxM_3 q).1, h3] at this
    exact this
  show ∃ m', qM_saysLine_64_b (qM_saysLine_64 N) y (J l) (J p) (hi y TM g w m1) = _ ∧ _
  unfold qM_saysLine_64_b
  simp (disch := omega) only [↓isO_M, ↓gL_H, ↓pL_H, ↓gI_M1, ↓gI_M2, ↓gI_M3, ↓gI_M4, ↓gI_M5, ↓gI_M6, ↓gI_M13, ↓gI_M22, ↓gI_M23, ↓gI_M24, ↓gI_M25, ↓gI_M27, ↓gI_M28, ↓gI_M29, ↓gI_M30, ↓gI_M31, ↓gI_M32, ↓gI_M33, ↓gI_M34, ↓gI_M35, ↓gI_M40, ↓gI_M41, ↓gI_M42, ↓gI_M43, ↓pV_M1, ↓pV_M2, ↓pV_M3, ↓pV_M4, ↓pV_M5, ↓pV_M6, ↓pV_M13, ↓pV_M22, ↓pV_M23, ↓pV_M24, ↓pV_M25, ↓pV_M27, ↓pV_M28, ↓pV_M29, ↓pV_M30, ↓pV_M31, ↓pV_M32, ↓pV_M33, ↓pV_M34, ↓pV_M35, ↓pV_M40, ↓pV_M41, ↓pV_M42, ↓pV_M43, ↓gR_M0, ↓gR_M7, ↓gR_M8, ↓gR_M9, ↓gR_M10, ↓gR_M11, ↓gR_M12, ↓gR_M14, ↓gR_M15, ↓gR_M16, ↓gR_M17, ↓gR_M18, ↓gR_M19, ↓gR_M20, ↓gR_M21, ↓gR_M36, ↓gR_M37, ↓gR_M38, ↓gR_M39, ↓rd_M1, ↓rd_M2, ↓rd_M3, ↓rd_M4, ↓rd_M5, ↓rd_M6, ↓rd_M7, ↓rd_M8, ↓rd_M9, ↓rd_M10, ↓rd_M11, ↓rd_M12, ↓rd_M13, ↓rd_M14, ↓rd_M15, ↓rd_M16, ↓rd_M17, ↓rd_M18, ↓rd_M19, ↓wr_M1, ↓wr_M2, ↓wr_M3, ↓wr_M4, ↓wr_M5, ↓wr_M6, ↓wr_M7, ↓wr_M8, ↓wr_M9, ↓wr_M10, ↓wr_M11, ↓wr_M12, ↓wr_M13, ↓wr_M14, ↓wr_M15, ↓wr_M16, ↓wr_M17, ↓wr_M18, ↓wr_M19, pL_H, pV_M1, pV_M2, pV_M3, pV_M4, pV_M5, pV_M6, pV_M13, pV_M22, pV_M23, pV_M24, pV_M25, pV_M27, pV_M28, pV_M29, pV_M30, pV_M31, pV_M32, pV_M33, pV_M34, pV_M35, pV_M40, pV_M41, pV_M42, pV_M43, rd_M1, rd_M2, rd_M3, rd_M4, rd_M5, rd_M6, rd_M7, rd_M8, rd_M9, rd_M10, rd_M11, rd_M12, rd_M13, rd_M14, rd_M15, rd_M16, rd_M17, rd_M18, rd_M19, wr_M1, wr_M2, wr_M3, wr_M4, wr_M5, wr_M6, wr_M7, wr_M8, wr_M9, wr_M10, wr_M11, wr_M12, wr_M13, wr_M14, wr_M15, wr_M16, wr_M17, wr_M18, wr_M19, J_l, J_neg, J_add, J_sub, J_mul, J_lt, J_le, J_eq, J_div2, J_rem2, J_shl1, J_orp, J_or, J_and, J_shr, J_ushr, J_max, J_min, J_abs, J_b0, ↓b0_ite, ↓b0_ite2, b0_ite, bI_r, bV_r, b01_ite, ite_true, ite_false, rZ_b, K_l, J_long, M_in, oN hT1]
  by_cases h0 : (p : Int) < cN W l
  · rw [if_pos h0]
    have hbp := hb.2.2.2 p (by omega) h0
    obtain ⟨m2, e2, h2⟩ := M_sayB (y := y) (g := g) (w := w) (b := 32) hT1 (by omega) hi0
    have l2 : (L ++ ptB W l p ++ [32]).length ≤ L.length + 9 * p + 1 := by simp only [List.length_append, List.length_cons, List.length_nil, twl0, twl1, twl2, twl3, twl4, twl5]; omega
    obtain ⟨m3, e3, h3'⟩ := M_pair (y := y) (g := g) (w := w) (v := 52) (u := cX W l p) h2 (by omega) hi0 (by omega) (by omega)
    rw [wat] at h3'
    have nx := numB_len (v := cX W l p)
    have l3 : (L ++ ptB W l p ++ [32] ++ [97, 116] ++ 32 :: numB (cX W l p)).length ≤ L.length + 9 * p + 6 := by simp only [List.length_append, List.length_cons, List.length_nil, twl0, twl1, twl2, twl3, twl4, twl5]; omega
    obtain ⟨m4, e4, h4⟩ := M_sayB (y := y) (g := g) (w := w) (b := 32) h3' (by omega) hi0
    have l4 : (L ++ ptB W l p ++ [32] ++ [97, 116] ++ 32 :: numB (cX W l p) ++ [32]).length ≤ L.length + 9 * p + 7 := by simp only [List.length_append, List.length_cons, List.length_nil, twl0, twl1, twl2, twl3, twl4, twl5]; omega
    obtain ⟨m5, e5, h5⟩ := M_number (y := y) (g := g) (w := w) (v := cY W l p) h4 (by omega) hi0 (by omega)
    simp (disch := omega) only [↓isO_M, ↓gL_H, ↓pL_H, ↓gI_M1, ↓gI_M2, ↓gI_M3, ↓gI_M4, ↓gI_M5, ↓gI_M6, ↓gI_M13, ↓gI_M22, ↓gI_M23, ↓gI_M24, ↓gI_M25, ↓gI_M27, ↓gI_M28, ↓gI_M29, ↓gI_M30, ↓gI_M31, ↓gI_M32, ↓gI_M33, ↓gI_M34, ↓gI_M35, ↓gI_M40, ↓gI_M41, ↓gI_M42, ↓gI_M43, ↓pV_M1, ↓pV_M2, ↓pV_M3, ↓pV_M4, ↓pV_M5, ↓pV_M6, ↓pV_M13, ↓pV_M22, ↓pV_M23, ↓pV_M24, ↓pV_M25, ↓pV_M27, ↓pV_M28, ↓pV_M29, ↓pV_M30, ↓pV_M31, ↓pV_M32, ↓pV_M33, ↓pV_M34, ↓pV_M35, ↓pV_M40, ↓pV_M41, ↓pV_M42, ↓pV_M43, ↓gR_M0, ↓gR_M7, ↓gR_M8, ↓gR_M9, ↓gR_M10, ↓gR_M11, ↓gR_M12, ↓gR_M14, ↓gR_M15, ↓gR_M16, ↓gR_M17, ↓gR_M18, ↓gR_M19, ↓gR_M20, ↓gR_M21, ↓gR_M36, ↓gR_M37, ↓gR_M38, ↓gR_M39, ↓rd_M1, ↓rd_M2, ↓rd_M3, ↓rd_M4, ↓rd_M5, ↓rd_M6, ↓rd_M7, ↓rd_M8, ↓rd_M9, ↓rd_M10, ↓rd_M11, ↓rd_M12, ↓rd_M13, ↓rd_M14, ↓rd_M15, ↓rd_M16, ↓rd_M17, ↓rd_M18, ↓rd_M19, ↓wr_M1, ↓wr_M2, ↓wr_M3, ↓wr_M4, ↓wr_M5, ↓wr_M6, ↓wr_M7, ↓wr_M8, ↓wr_M9, ↓wr_M10, ↓wr_M11, ↓wr_M12, ↓wr_M13, ↓wr_M14, ↓wr_M15, ↓wr_M16, ↓wr_M17, ↓wr_M18, ↓wr_M19, pL_H, pV_M1, pV_M2, pV_M3, pV_M4, pV_M5, pV_M6, pV_M13, pV_M22, pV_M23, pV_M24, pV_M25, pV_M27, pV_M28, pV_M29, pV_M30, pV_M31, pV_M32, pV_M33, pV_M34, pV_M35, pV_M40, pV_M41, pV_M42, pV_M43, rd_M1, rd_M2, rd_M3, rd_M4, rd_M5, rd_M6, rd_M7, rd_M8, rd_M9, rd_M10, rd_M11, rd_M12, rd_M13, rd_M14, rd_M15, rd_M16, rd_M17, rd_M18, rd_M19, wr_M1, wr_M2, wr_M3, wr_M4, wr_M5, wr_M6, wr_M7, wr_M8, wr_M9, wr_M10, wr_M11, wr_M12, wr_M13, wr_M14, wr_M15, wr_M16, wr_M17, wr_M18, wr_M19, J_l, J_neg, J_add, J_sub, J_mul, J_lt, J_le, J_eq, J_div2, J_rem2, J_shl1, J_orp, J_or, J_and, J_shr, J_ushr, J_max, J_min, J_abs, J_b0, ↓b0_ite, ↓b0_ite2, b0_ite, bI_r, bV_r, b01_ite, ite_true, ite_false, rZ_b, K_l, J_long, M_in, e2, oX h2 h0, e3, e4, oY h4 h0, e5]
    refine ih (p + 1, m5) ⟨by show p + 1 ≤ (cN W l).toNat; omega, ?_⟩ (by show cN W l - ((p + 1 : Nat) : Int) < cN W l - (p : Int); omega)
    show TxM (L ++ (ptB W l p ++ ([32, 97, 116] ++ (32 :: numB (cX W l p) ++ 32 :: numB (cY W l p))))) i m0 m5
    have ee : L ++ (ptB W l p ++ ([32, 97, 116] ++ (32 :: numB (cX W l p) ++ 32 :: numB (cY W l p)))) = L ++ ptB W l p ++ [32] ++ [97, 116] ++ 32 :: numB (cX W l p) ++ [32] ++ numB (cY W l p) := by
      simp only [List.append_assoc, List.cons_append, List.nil_append]
    rw [ee]
    exact h5
  · rw [if_neg h0]
    obtain ⟨m2, e2, h2⟩ := M_sayB (y := y) (g := g) (w := w) (b := 59) hT1 (by omega) hi0
    unfold qM_saysLine_115
    simp (disch := omega) only [↓isO_M, ↓gL_H, ↓pL_H, ↓gI_M1, ↓gI_M2, ↓gI_M3, ↓gI_M4, ↓gI_M5, ↓gI_M6, ↓gI_M13, ↓gI_M22, ↓gI_M23, ↓gI_M24, ↓gI_M25, ↓gI_M27, ↓gI_M28, ↓gI_M29, ↓gI_M30, ↓gI_M31, ↓gI_M32, ↓gI_M33, ↓gI_M34, ↓gI_M35, ↓gI_M40, ↓gI_M41, ↓gI_M42, ↓gI_M43, ↓pV_M1, ↓pV_M2, ↓pV_M3, ↓pV_M4, ↓pV_M5, ↓pV_M6, ↓pV_M13, ↓pV_M22, ↓pV_M23, ↓pV_M24, ↓pV_M25, ↓pV_M27, ↓pV_M28, ↓pV_M29, ↓pV_M30, ↓pV_M31, ↓pV_M32, ↓pV_M33, ↓pV_M34, ↓pV_M35, ↓pV_M40, ↓pV_M41, ↓pV_M42, ↓pV_M43, ↓gR_M0, ↓gR_M7, ↓gR_M8, ↓gR_M9, ↓gR_M10, ↓gR_M11, ↓gR_M12, ↓gR_M14, ↓gR_M15, ↓gR_M16, ↓gR_M17, ↓gR_M18, ↓gR_M19, ↓gR_M20, ↓gR_M21, ↓gR_M36, ↓gR_M37, ↓gR_M38, ↓gR_M39, ↓rd_M1, ↓rd_M2, ↓rd_M3, ↓rd_M4, ↓rd_M5, ↓rd_M6, ↓rd_M7, ↓rd_M8, ↓rd_M9, ↓rd_M10, ↓rd_M11, ↓rd_M12, ↓rd_M13, ↓rd_M14, ↓rd_M15, ↓rd_M16, ↓rd_M17, ↓rd_M18, ↓rd_M19, ↓wr_M1, ↓wr_M2, ↓wr_M3, ↓wr_M4, ↓wr_M5, ↓wr_M6, ↓wr_M7, ↓wr_M8, ↓wr_M9, ↓wr_M10, ↓wr_M11, ↓wr_M12, ↓wr_M13, ↓wr_M14, ↓wr_M15, ↓wr_M16, ↓wr_M17, ↓wr_M18, ↓wr_M19, pL_H, pV_M1, pV_M2, pV_M3, pV_M4, pV_M5, pV_M6, pV_M13, pV_M22, pV_M23, pV_M24, pV_M25, pV_M27, pV_M28, pV_M29, pV_M30, pV_M31, pV_M32, pV_M33, pV_M34, pV_M35, pV_M40, pV_M41, pV_M42, pV_M43, rd_M1, rd_M2, rd_M3, rd_M4, rd_M5, rd_M6, rd_M7, rd_M8, rd_M9, rd_M10, rd_M11, rd_M12, rd_M13, rd_M14, rd_M15, rd_M16, rd_M17, rd_M18, rd_M19, wr_M1, wr_M2, wr_M3, wr_M4, wr_M5, wr_M6, wr_M7, wr_M8, wr_M9, wr_M10, wr_M11, wr_M12, wr_M13, wr_M14, wr_M15, wr_M16, wr_M17, wr_M18, wr_M19, J_l, J_neg, J_add, J_sub, J_mul, J_lt, J_le, J_eq, J_div2, J_rem2, J_shl1, J_orp, J_or, J_and, J_shr, J_ushr, J_max, J_min, J_abs, J_b0, ↓b0_ite, ↓b0_ite2, b0_ite, bI_r, bV_r, b01_ite, ite_true, ite_false, rZ_b, K_l, J_long, M_in, e2]
    refine ⟨m2, rfl, ?_⟩
    rw [List.append_assoc, show p = (cN W l).toNat by omega] at h2
    exact h2
theorem M_sayLine {l : Int} (h3 : m0 3 = W) (hnm : m0 2 = nm) (hl : 0 ≤ l ∧ l < 8) (hN : NmOk (nm l)) (hb : LB W l) (hT : TxM L i m0 m) (hL : L.length + 125 ≤ 1100) (hi0 : -2147483648 ≤ i ∧ i < 2147483648) : ∃ m', qM_saysLine y (J l) (hi y TM g w m) = rV (hi y TM g w m') ∧ TxM (L ++ lnB W nm l) i m0 m' := by
  have wl : wdP 402885 8 = [108, 105, 110, 101] := by decide +kernel
  have ws : wdP 632645 8 = [115, 105, 122, 101] := by decide +kernel
  have wt : wdP 20594195 8 = [115, 116, 111, 112, 115] := by decide +kernel
  have bz := hb.2.2.1
  have bt := hb.2.1
  have c1 := numB_len (v := cZ W l)
  have c2 := numB_len (v := cT W l)
  have c3 := nmP_len (v := nm l) 6
  have hv := hN.1
  have wn : wdP (nm l) 8 = nmP (nm l) 6 := wdP_nm (by omega) 6
  obtain ⟨m1, e1, h1⟩ := M_word (y := y) (g := g) (w := w) (v := 402885) hT (by omega) hi0 (by omega)
  rw [wl] at h1
  have l1 : (L ++ [108, 105, 110, 101]).length = L.length + 4 := by simp only [List.length_append, List.length_cons, List.length_nil, twl0, twl1, twl2, twl3, twl4, twl5]
  obtain ⟨m2, e2, h2⟩ := M_sayB (y := y) (g := g) (w := w) (b := 32) h1 (by omega) hi0
  have l2 : (L ++ [108, 105, 110, 101] ++ [32]).length = L.length + 5 := by simp only [List.length_append, List.length_cons, List.length_nil, twl0, twl1, twl2, twl3, twl4, twl5]
  have n2 : m2 2 l = nm l := by rw [(TxM_3 h2).2.1, hnm]
  obtain ⟨m3, e3, h3'⟩ := M_word (y := y) (g := g) (w := w) (v := nm l) h2 (by omega) hi0 (by omega)
  rw [wn] at h3'
  have l3 : (L ++ [108, 105, 110, 101] ++ [32] ++ nmP (nm l) 6).length ≤ L.length + 11 := by simp only [List.length_append, List.length_cons, List.length_nil, twl0, twl1, twl2, twl3, twl4, twl5]; omega
  obtain ⟨m4, e4, h4⟩ := M_sayB (y := y) (g := g) (w := w) (b := 32) h3' (by omega) hi0
  have l4 : (L ++ [108, 105, 110, 101] ++ [32] ++ nmP (nm l) 6 ++ [32]).length ≤ L.length + 12 := by simp only [List.length_append, List.length_cons, List.length_nil, twl0, twl1, twl2, twl3, twl4, twl5]; omega
  have o4 : qM_of y (J l) (J 0) (hi y TM g w m4) = rI (J (cZ W l)) (hi y TM g w m4) := by
    have := M_oZ (y := y) (g := g) (w := w) (m := m4) hl
    rw [(TxM_3 h4).1, h3] at this
    exact this
  obtain ⟨m5, e5, h5⟩ := M_pair (y := y) (g := g) (w := w) (v := 632645) (u := cZ W l) h4 (by omega) hi0 (by omega) (by omega)
  rw [ws] at h5
  have l5 : (L ++ [108, 105, 110, 101] ++ [32] ++ nmP (nm l) 6 ++ [32] ++ [115, 105, 122, 101] ++ 32 :: numB (cZ W l)).length ≤ L.length + 19 := by simp only [List.length_append, List.length_cons, List.length_nil, twl0, twl1, twl2, twl3, twl4, twl5]; omega
  obtain ⟨m6, e6, h6⟩ := M_sayB (y := y) (g := g) (w := w) (b := 32) h5 (by omega) hi0
  have l6 : (L ++ [108, 105, 110, 101] ++ [32] ++ nmP (nm l) 6 ++ [32] ++ [115, 105, 122, 101] ++ 32 :: numB (cZ W l) ++ [32]).length ≤ L.length + 20 := by simp only [List.length_append, List.length_cons, List.length_nil, twl0, twl1, twl2, twl3, twl4, twl5]; omega
  have o6 : qM_of y (J l) (J 1) (hi y TM g w m6) = rI (J (cT W l)) (hi y TM g w m6) := by
    have := M_oT (y := y) (g := g) (w := w) (m := m6) hl
    rw [(TxM_3 h6).1, h3] at this
    exact this
  obtain ⟨m7, e7, h7⟩ := M_pair (y := y) (g := g) (w := w) (v := 20594195) (u := cT W l) h6 (by omega) hi0 (by omega) (by omega)
  rw [wt] at h7
  have l7 : (L ++ [108, 105, 110, 101] ++ [32] ++ nmP (nm l) 6 ++ [32] ++ [115, 105, 122, 101] ++ 32 :: numB (cZ W l) ++ [32] ++ [115, 116, 111, 112, 115] ++ 32 :: numB (cT W l)).length ≤ L.length + 28 := by simp only [List.length_append, List.length_cons, List.length_nil, twl0, twl1, twl2, twl3, twl4, twl5]; omega
  obtain ⟨m8, e8, h8⟩ := M_sayPoints (y := y) (g := g) (w := w) h3 hl hb h7 (by omega) hi0
  refine ⟨m8, ?_, ?_⟩
  · unfold qM_saysLine
    simp (disch := omega) only [↓isO_M, ↓gL_H, ↓pL_H, ↓gI_M1, ↓gI_M2, ↓gI_M3, ↓gI_M4, ↓gI_M5, ↓gI_M6, ↓gI_M13, ↓gI_M22, ↓gI_M23, ↓gI_M24, ↓gI_M25, ↓gI_M27, ↓gI_M28, ↓gI_M29, ↓gI_M30, ↓gI_M31, ↓gI_M32, ↓gI_M33, ↓gI_M34, ↓gI_M35, ↓gI_M40, ↓gI_M41, ↓gI_M42, ↓gI_M43, ↓pV_M1, ↓pV_M2, ↓pV_M3, ↓pV_M4, ↓pV_M5, ↓pV_M6, ↓pV_M13, ↓pV_M22, ↓pV_M23, ↓pV_M24, ↓pV_M25, ↓pV_M27, ↓pV_M28, ↓pV_M29, ↓pV_M30, ↓pV_M31, ↓pV_M32, ↓pV_M33, ↓pV_M34, ↓pV_M35, ↓pV_M40, ↓pV_M41, ↓pV_M42, ↓pV_M43, ↓gR_M0, ↓gR_M7, ↓gR_M8, ↓gR_M9, ↓gR_M10, ↓gR_M11, ↓gR_M12, ↓gR_M14, ↓gR_M15, ↓gR_M16, ↓gR_M17, ↓gR_M18, ↓gR_M19, ↓gR_M20, ↓gR_M21, ↓gR_M36, ↓gR_M37, ↓gR_M38, ↓gR_M39, ↓rd_M1, ↓rd_M2, ↓rd_M3, ↓rd_M4, ↓rd_M5, ↓rd_M6, ↓rd_M7, ↓rd_M8, ↓rd_M9, ↓rd_M10, ↓rd_M11, ↓rd_M12, ↓rd_M13, ↓rd_M14, ↓rd_M15, ↓rd_M16, ↓rd_M17, ↓rd_M18, ↓rd_M19, ↓wr_M1, ↓wr_M2, ↓wr_M3, ↓wr_M4, ↓wr_M5, ↓wr_M6, ↓wr_M7, ↓wr_M8, ↓wr_M9, ↓wr_M10, ↓wr_M11, ↓wr_M12, ↓wr_M13, ↓wr_M14, ↓wr_M15, ↓wr_M16, ↓wr_M17, ↓wr_M18, ↓wr_M19, pL_H, pV_M1, pV_M2, pV_M3, pV_M4, pV_M5, pV_M6, pV_M13, pV_M22, pV_M23, pV_M24, pV_M25, pV_M27, pV_M28, pV_M29, pV_M30, pV_M31, pV_M32, pV_M33, pV_M34, pV_M35, pV_M40, pV_M41, pV_M42, pV_M43, rd_M1, rd_M2, rd_M3, rd_M4, rd_M5, rd_M6, rd_M7, rd_M8, rd_M9, rd_M10, rd_M11, rd_M12, rd_M13, rd_M14, rd_M15, rd_M16, rd_M17, rd_M18, rd_M19, wr_M1, wr_M2, wr_M3, wr_M4, wr_M5, wr_M6, wr_M7, wr_M8, wr_M9, wr_M10, wr_M11, wr_M12, wr_M13, wr_M14, wr_M15, wr_M16, wr_M17, wr_M18, wr_M19, J_l, J_neg, J_add, J_sub, J_mul, J_lt, J_le, J_eq, J_div2, J_rem2, J_shl1, J_orp, J_or, J_and, J_shr, J_ushr, J_max, J_min, J_abs, J_b0, ↓b0_ite, ↓b0_ite2, b0_ite, bI_r, bV_r, b01_ite, ite_true, ite_false, rZ_b, K_l, J_long, M_in, e1, e2, n2, e3, e4, o4, e5, e6, o6, e7, e8]
  · have ee : L ++ lnB W nm l = L ++ [108, 105, 110, 101] ++ [32] ++ nmP (nm l) 6 ++ [32] ++ [115, 105, 122, 101] ++ 32 :: numB (cZ W l) ++ [32] ++ [115, 116, 111, 112, 115] ++ 32 :: numB (cT W l) ++ (ptB W l (cN W l).toNat ++ [59]) := by
      unfold lnB
      simp only [List.append_assoc, List.cons_append, List.nil_append]
    rw [ee]
    exact h8
theorem M_saysSetup (hI : Inv s m) (hi0 : -2147483648 ≤ i ∧ i < 2147483648) : ∃ m', qM_saysSetup y (J i) (hi y TM g w m) = rV (hi y TM g w m') ∧ Inv s m' ∧ TxM (alB (m 3) (m 2) (m 0 3) (m 0 4) (m 0 5) (m 0 6).toNat) i (tx0 m i) m' := by
  have hI2 := Inv_keep hI (tx0_K (i := i)) KeepS.refl
  obtain ⟨hT, hE, ⟨hH, hNm, hP, row, hB, hO⟩, hS, hHi⟩ := hI
  have hn := hH.2.2.2
  have hw := hH.1
  have hh := hH.2.1
  have hmt := hH.2.2.1
  have hLB : ∀ l, 0 ≤ l → l < m 0 6 → LB (m 3) l := fun l a b => (hP.1.1 l a b).1
  have c1 := numB_len (v := m 0 3)
  have c2 := numB_len (v := m 0 4)
  have c3 := numB_len (v := m 0 5)
  have wb : wdP 2590276 8 = [98, 111, 97, 114, 100] := by decide +kernel
  have wt : wdP 677454 8 = [116, 117, 114, 110] := by decide +kernel
  have f3 : tx0 m i 3 = m 3 := rs_ne (by decide)
  have f2 : tx0 m i 2 = m 2 := rs_ne (by decide)
  have f0 : ∀ j, j ≠ 41 → j ≠ 42 → j ≠ 43 → tx0 m i 0 j = m 0 j := fun j j1 j2 j3 => by
    unfold tx0
    rw [rs_same, ru_ne j3, ru_ne j2, ru_ne j1]
  have h0 : TxM [] i (tx0 m i) (tx0 m i) := by
    refine ⟨fun _ _ => rfl, fun _ _ _ _ => rfl, ?_, ?_, ?_⟩
    · unfold tx0; rw [rs_same, ru_ne (by decide), ru_ne (by decide), ru_same]; rfl
    · unfold tx0; rw [rs_same, ru_ne (by decide), ru_same]
    · rw [if_neg (show ¬(0 ≤ i ∧ i < ((([] : List Int).length : Nat) : Int)) from fun q => by have := q.2; simp only [List.length_nil] at this; omega)]; unfold tx0; rw [rs_same, ru_same]
  have t3 := f0 3 (by decide) (by decide) (by decide)
  obtain ⟨m1, e1, h1⟩ := M_pair (y := y) (g := g) (w := w) (v := 2590276) (u := m 0 3) h0 (by decide) hi0 (by omega) (by omega)
  rw [wb] at h1
  have l1 : ([] ++ [98, 111, 97, 114, 100] ++ 32 :: numB (m 0 3)).length ≤ 8 := by simp only [List.length_append, List.length_cons, List.length_nil, twl0, twl1, twl2, twl3, twl4, twl5]; omega
  obtain ⟨m2, e2, h2⟩ := M_sayB (y := y) (g := g) (w := w) (b := 32) h1 (by omega) hi0
  have l2 : ([] ++ [98, 111, 97, 114, 100] ++ 32 :: numB (m 0 3) ++ [32]).length ≤ 9 := by simp only [List.length_append, List.length_cons, List.length_nil, twl0, twl1, twl2, twl3, twl4, twl5]; omega
  have t4 : m2 0 4 = m 0 4 := by rw [(TxM_3 h2).2.2 4 (by decide) (by decide) (by decide), f0 4 (by decide) (by decide) (by decide)]
  obtain ⟨m3, e3, h3⟩ := M_number (y := y) (g := g) (w := w) (v := m 0 4) h2 (by omega) hi0 (by omega)
  have l3 : ([] ++ [98, 111, 97, 114, 100] ++ 32 :: numB (m 0 3) ++ [32] ++ numB (m 0 4)).length ≤ 11 := by simp only [List.length_append, List.length_cons, List.length_nil, twl0, twl1, twl2, twl3, twl4, twl5]; omega
  obtain ⟨m4, e4, h4⟩ := M_sayB (y := y) (g := g) (w := w) (b := 32) h3 (by omega) hi0
  have l4 : ([] ++ [98, 111, 97, 114, 100] ++ 32 :: numB (m 0 3) ++ [32] ++ numB (m 0 4) ++ [32]).length ≤ 12 := by simp only [List.length_append, List.length_cons, List.length_nil, twl0, twl1, twl2, twl3, twl4, twl5]; omega
  have t5 : m4 0 5 = m 0 5 := by rw [(TxM_3 h4).2.2 5 (by decide) (by decide) (by decide), f0 5 (by decide) (by decide) (by decide)]
  obtain ⟨m5, e5, h5⟩ := M_pair (y := y) (g := g) (w := w) (v := 677454) (u := m 0 5) h4 (by omega) hi0 (by omega) (by omega)
  rw [wt] at h5
  have l5 : ([] ++ [98, 111, 97, 114, 100] ++ 32 :: numB (m 0 3) ++ [32] ++ numB (m 0 4) ++ [32] ++ [116, 117, 114, 110] ++ 32 :: numB (m 0 5)).length ≤ 19 := by simp only [List.length_append, List.length_cons, List.length_nil, twl0, twl1, twl2, twl3, twl4, twl5]; omega
  obtain ⟨m6, e6, h6⟩ := M_sayB (y := y) (g := g) (w := w) (b := 59) h5 (by omega) hi0
  have h6' : TxM (alB (m 3) (m 2) (m 0 3) (m 0 4) (m 0 5) 0) i (tx0 m i) m6 := by
    have ee : alB (m 3) (m 2) (m 0 3) (m 0 4) (m 0 5) 0 = [] ++ [98, 111, 97, 114, 100] ++ 32 :: numB (m 0 3) ++ [32] ++ numB (m 0 4) ++ [32] ++ [116, 117, 114, 110] ++ 32 :: numB (m 0 5) ++ [59] := by
      show hdB (m 0 3) (m 0 4) (m 0 5) = _
      unfold hdB
      simp only [List.append_assoc, List.cons_append, List.nil_append]
    rw [ee]
    exact h6
  obtain ⟨m7, e7, h7⟩ : ∃ m', qM_saysSetup_55 LF y (J 0) (hi y TM g w m6) = rV (hi y TM g w m') ∧ TxM (alB (m 3) (m 2) (m 0 3) (m 0 4) (m 0 5) (m 0 6).toNat) i (tx0 m i) m' := by
    refine loopI (S := Nat × CT) (fun N q => qM_saysSetup_55 N y (J q.1) (hi y TM g w q.2)) (fun X => ∃ m', X = rV (hi y TM g w m') ∧ TxM (alB (m 3) (m 2) (m 0 3) (m 0 4) (m 0 5) (m 0 6).toNat) i (tx0 m i) m') (fun q => q.1 ≤ (m 0 6).toNat ∧ TxM (alB (m 3) (m 2) (m 0 3) (m 0 4) (m 0 5) q.1) i (tx0 m i) q.2) (fun q => m 0 6 - q.1) (by intro q hq; omega) (fun N q hq ih => ?_) (0, m6) ⟨Nat.zero_le _, h6'⟩ (by show m 0 6 - ((0 : Nat) : Int) < 20000; omega)
    obtain ⟨l, m8⟩ := q
    obtain ⟨hl, hT⟩ := hq
    change l ≤ (m 0 6).toNat at hl
    change TxM (alB (m 3) (m 2) (m 0 3) (m 0 4) (m 0 5) l) i (tx0 m i) m8 at hT
    have al := alB_len (W := m 3) (nm := m 2) (wd := m 0 3) (hg := m 0 4) (mt := m 0 5) (n := m 0 6) (fun l a b => (hLB l a b).1.2) l (by omega)
    have f8 : m8 0 6 = m 0 6 := by rw [(TxM_3 hT).2.2 6 (by decide) (by decide) (by decide), f0 6 (by decide) (by decide) (by decide)]
    show ∃ m', qM_saysSetup_55_b (qM_saysSetup_55 N) y (J l) (hi y TM g w m8) = _ ∧ _
    unfold qM_saysSetup_55_b
    simp (disch := omega) only [↓isO_M, ↓gL_H, ↓pL_H, ↓gI_M1, ↓gI_M2, ↓gI_M3, ↓gI_M4, ↓gI_M5, ↓gI_M6, ↓gI_M13, ↓gI_M22, ↓gI_M23, ↓gI_M24, ↓gI_M25, ↓gI_M27, ↓gI_M28, ↓gI_M29, ↓gI_M30, ↓gI_M31, ↓gI_M32, ↓gI_M33, ↓gI_M34, ↓gI_M35, ↓gI_M40, ↓gI_M41, ↓gI_M42, ↓gI_M43, ↓pV_M1, ↓pV_M2, ↓pV_M3, ↓pV_M4, ↓pV_M5, ↓pV_M6, ↓pV_M13, ↓pV_M22, ↓pV_M23, ↓pV_M24, ↓pV_M25, ↓pV_M27, ↓pV_M28, ↓pV_M29, ↓pV_M30, ↓pV_M31, ↓pV_M32, ↓pV_M33, ↓pV_M34, ↓pV_M35, ↓pV_M40, ↓pV_M41, ↓pV_M42, ↓pV_M43, ↓gR_M0, ↓gR_M7, ↓gR_M8, ↓gR_M9, ↓gR_M10, ↓gR_M11, ↓gR_M12, ↓gR_M14, ↓gR_M15, ↓gR_M16, ↓gR_M17, ↓gR_M18, ↓gR_M19, ↓gR_M20, ↓gR_M21, ↓gR_M36, ↓gR_M37, ↓gR_M38, ↓gR_M39, ↓rd_M1, ↓rd_M2, ↓rd_M3, ↓rd_M4, ↓rd_M5, ↓rd_M6, ↓rd_M7, ↓rd_M8, ↓rd_M9, ↓rd_M10, ↓rd_M11, ↓rd_M12, ↓rd_M13, ↓rd_M14, ↓rd_M15, ↓rd_M16, ↓rd_M17, ↓rd_M18, ↓rd_M19, ↓wr_M1, ↓wr_M2, ↓wr_M3, ↓wr_M4, ↓wr_M5, ↓wr_M6, ↓wr_M7, ↓wr_M8, ↓wr_M9, ↓wr_M10, ↓wr_M11, ↓wr_M12, ↓wr_M13, ↓wr_M14, ↓wr_M15, ↓wr_M16, ↓wr_M17, ↓wr_M18, ↓wr_M19, pL_H, pV_M1, pV_M2, pV_M3, pV_M4, pV_M5, pV_M6, pV_M13, pV_M22, pV_M23, pV_M24, pV_M25, pV_M27, pV_M28, pV_M29, pV_M30, pV_M31, pV_M32, pV_M33, pV_M34, pV_M35, pV_M40, pV_M41, pV_M42, pV_M43, rd_M1, rd_M2, rd_M3, rd_M4, rd_M5, rd_M6, rd_M7, rd_M8, rd_M9, rd_M10, rd_M11, rd_M12, rd_M13, rd_M14, rd_M15, rd_M16, rd_M17, rd_M18, rd_M19, wr_M1, wr_M2, wr_M3, wr_M4, wr_M5, wr_M6, wr_M7, wr_M8, wr_M9, wr_M10, wr_M11, wr_M12, wr_M13, wr_M14, wr_M15, wr_M16, wr_M17, wr_M18, wr_M19, J_l, J_neg, J_add, J_sub, J_mul, J_lt, J_le, J_eq, J_div2, J_rem2, J_shl1, J_orp, J_or, J_and, J_shr, J_ushr, J_max, J_min, J_abs, J_b0, ↓b0_ite, ↓b0_ite2, b0_ite, bI_r, bV_r, b01_ite, ite_true, ite_false, rZ_b, K_l, J_long, M_in, f8]
    by_cases q0 : (l : Int) < m 0 6
    · rw [if_pos q0]
      obtain ⟨m9, e9, h9⟩ := M_sayLine (y := y) (g := g) (w := w) (nm := m 2) (W := m 3) (l := l) f3 f2 (by omega) (hNm l (by omega) q0) (hLB l (by omega) q0) hT (by omega) hi0
      simp (disch := omega) only [↓isO_M, ↓gL_H, ↓pL_H, ↓gI_M1, ↓gI_M2, ↓gI_M3, ↓gI_M4, ↓gI_M5, ↓gI_M6, ↓gI_M13, ↓gI_M22, ↓gI_M23, ↓gI_M24, ↓gI_M25, ↓gI_M27, ↓gI_M28, ↓gI_M29, ↓gI_M30, ↓gI_M31, ↓gI_M32, ↓gI_M33, ↓gI_M34, ↓gI_M35, ↓gI_M40, ↓gI_M41, ↓gI_M42, ↓gI_M43, ↓pV_M1, ↓pV_M2, ↓pV_M3, ↓pV_M4, ↓pV_M5, ↓pV_M6, ↓pV_M13, ↓pV_M22, ↓pV_M23, ↓pV_M24, ↓pV_M25, ↓pV_M27, ↓pV_M28, ↓pV_M29, ↓pV_M30, ↓pV_M31, ↓pV_M32, ↓pV_M33, ↓pV_M34, ↓pV_M35, ↓pV_M40, ↓pV_M41, ↓pV_M42, ↓pV_M43, ↓gR_M0, ↓gR_M7, ↓gR_M8, ↓gR_M9, ↓gR_M10, ↓gR_M11, ↓gR_M12, ↓gR_M14, ↓gR_M15, ↓gR_M16, ↓gR_M17, ↓gR_M18, ↓gR_M19, ↓gR_M20, ↓gR_M21, ↓gR_M36, ↓gR_M37, ↓gR_M38, ↓gR_M39, ↓rd_M1, ↓rd_M2, ↓rd_M3, ↓rd_M4, ↓rd_M5, ↓rd_M6, ↓rd_M7, ↓rd_M8, ↓rd_M9, ↓rd_M10, ↓rd_M11, ↓rd_M12, ↓rd_M13, ↓rd_M14, ↓rd_M15, ↓rd_M16, ↓rd_M17, ↓rd_M18, ↓rd_M19, ↓wr_M1, ↓wr_M2, ↓wr_M3, ↓wr_M4, ↓wr_M5, ↓wr_M6, ↓wr_M7, ↓wr_M8, ↓wr_M9, ↓wr_M10, ↓wr_M11, ↓wr_M12, ↓wr_M13, ↓wr_M14, ↓wr_M15, ↓wr_M16, ↓wr_M17, ↓wr_M18, ↓wr_M19, pL_H, pV_M1, pV_M2, pV_M3, pV_M4, pV_M5, pV_M6, pV_M13, pV_M22, pV_M23, pV_M24, pV_M25, pV_M27, pV_M28, pV_M29, pV_M30, pV_M31, pV_M32, pV_M33, pV_M34, pV_M35, pV_M40, pV_M41, pV_M42, pV_M43, rd_M1, rd_M2, rd_M3, rd_M4, rd_M5, rd_M6, rd_M7, rd_M8, rd_M9, rd_M10, rd_M11, rd_M12, rd_M13, rd_M14, rd_M15, rd_M16, rd_M17, rd_M18, rd_M19, wr_M1, wr_M2, wr_M3, wr_M4, wr_M5, wr_M6, wr_M7, wr_M8, wr_M9, wr_M10, wr_M11, wr_M12, wr_M13, wr_M14, wr_M15, wr_M16, wr_M17, wr_M18, wr_M19, J_l, J_neg, J_add, J_sub, J_mul, J_lt, J_le, J_eq, J_div2, J_rem2, J_shl1, J_orp, J_or, J_and, J_shr, J_ushr, J_max, J_min, J_abs, J_b0, ↓b0_ite, ↓b0_ite2, b0_ite, bI_r, bV_r, b01_ite, ite_true, ite_false, rZ_b, K_l, J_long, M_in, e9]
      exact ih (l + 1, m9) ⟨by show l + 1 ≤ (m 0 6).toNat; omega, h9⟩ (by show m 0 6 - ((l + 1 : Nat) : Int) < m 0 6 - (l : Int); omega)
    · rw [if_neg q0]
      refine ⟨m8, rfl, ?_⟩
      rw [show l = (m 0 6).toNat by omega] at hT
      exact hT
  refine ⟨m7, ?_, Inv_keep hI2 (SyM_K h7 KeepM.refl) KeepS.refl, h7⟩
  unfold qM_saysSetup
  simp (disch := omega) only [↓isO_M, ↓gL_H, ↓pL_H, ↓gI_M1, ↓gI_M2, ↓gI_M3, ↓gI_M4, ↓gI_M5, ↓gI_M6, ↓gI_M13, ↓gI_M22, ↓gI_M23, ↓gI_M24, ↓gI_M25, ↓gI_M27, ↓gI_M28, ↓gI_M29, ↓gI_M30, ↓gI_M31, ↓gI_M32, ↓gI_M33, ↓gI_M34, ↓gI_M35, ↓gI_M40, ↓gI_M41, ↓gI_M42, ↓gI_M43, ↓pV_M1, ↓pV_M2, ↓pV_M3, ↓pV_M4, ↓pV_M5, ↓pV_M6, ↓pV_M13, ↓pV_M22, ↓pV_M23, ↓pV_M24, ↓pV_M25, ↓pV_M27, ↓pV_M28, ↓pV_M29, ↓pV_M30, ↓pV_M31, ↓pV_M32, ↓pV_M33, ↓pV_M34, ↓pV_M35, ↓pV_M40, ↓pV_M41, ↓pV_M42, ↓pV_M43, ↓gR_M0, ↓gR_M7, ↓gR_M8, ↓gR_M9, ↓gR_M10, ↓gR_M11, ↓gR_M12, ↓gR_M14, ↓gR_M15, ↓gR_M16, ↓gR_M17, ↓gR_M18, ↓gR_M19, ↓gR_M20, ↓gR_M21, ↓gR_M36, ↓gR_M37, ↓gR_M38, ↓gR_M39, ↓rd_M1, ↓rd_M2, ↓rd_M3, ↓rd_M4, ↓rd_M5, ↓rd_M6, ↓rd_M7, ↓rd_M8, ↓rd_M9, ↓rd_M10, ↓rd_M11, ↓rd_M12, ↓rd_M13, ↓rd_M14, ↓rd_M15, ↓rd_M16, ↓rd_M17, ↓rd_M18, ↓rd_M19, ↓wr_M1, ↓wr_M2, ↓wr_M3, ↓wr_M4, ↓wr_M5, ↓wr_M6, ↓wr_M7, ↓wr_M8, ↓wr_M9, ↓wr_M10, ↓wr_M11, ↓wr_M12, ↓wr_M13, ↓wr_M14, ↓wr_M15, ↓wr_M16, ↓wr_M17, ↓wr_M18, ↓wr_M19, pL_H, pV_M1, pV_M2, pV_M3, pV_M4, pV_M5, pV_M6, pV_M13, pV_M22, pV_M23, pV_M24, pV_M25, pV_M27, pV_M28, pV_M29, pV_M30, pV_M31, pV_M32, pV_M33, pV_M34, pV_M35, pV_M40, pV_M41, pV_M42, pV_M43, rd_M1, rd_M2, rd_M3, rd_M4, rd_M5, rd_M6, rd_M7, rd_M8, rd_M9, rd_M10, rd_M11, rd_M12, rd_M13, rd_M14, rd_M15, rd_M16, rd_M17, rd_M18, rd_M19, wr_M1, wr_M2, wr_M3, wr_M4, wr_M5, wr_M6, wr_M7, wr_M8, wr_M9, wr_M10, wr_M11, wr_M12, wr_M13, wr_M14, wr_M15, wr_M16, wr_M17, wr_M18, wr_M19, J_l, J_neg, J_add, J_sub, J_mul, J_lt, J_le, J_eq, J_div2, J_rem2, J_shl1, J_orp, J_or, J_and, J_shr, J_ushr, J_max, J_min, J_abs, J_b0, ↓b0_ite, ↓b0_ite2, b0_ite, bI_r, bV_r, b01_ite, ite_true, ite_false, rZ_b, K_l, J_long, M_in, M_startsText, t3, e1, e2, t4, e3, e4, t5, e5, e6, e7]
theorem B_setupLength (hg : GT g z) (hI : Inv s m) : Both (qD_setupLength z (hi z TD g w s)) (qM_setupLength y (hi y TM g' w' m)) z y g g' w w' := by
  obtain ⟨m', e1, hI2, h2⟩ := M_saysSetup (y := y) (g := g') (w := w') (i := -1) hI (by omega)
  have hIk := hI
  obtain ⟨hT, hE, ⟨hH, hNm, hP, row, hB, hO⟩, hS, hHi⟩ := hI
  have hw := hH.1
  have hh := hH.2.1
  have hmt := hH.2.2.1
  obtain ⟨s', e2, h3⟩ := C_describe (w := w) hg hP.2 (by omega) (by omega) (by omega) hH.2.2.2 (fun l a b => (hP.1.1 l a b).1) hNm
  have x1 := h2.2.2.1
  have x2 := h3.2.1
  unfold qD_setupLength qM_setupLength
  simp (disch := omega) only [↓gR_D0, ↓gR_D1, ↓gR_D2, ↓gR_D3, ↓gR_D4, ↓gR_D5, ↓gR_D6, ↓gR_D7, ↓gR_D8, ↓gR_D9, ↓gR_D10, ↓gI_D11, ↓pV_D11, ↓isO_D, ↓gI_T0, ↓pV_T0, ↓gR_T1, ↓isO_T, ↓rd_T2, ↓wr_T2, ↓gI_U0, ↓pV_U0, ↓gR_U1, ↓isO_U, ↓rd_U2, ↓wr_U2, ↓gI_Ps0, ↓pV_Ps0, ↓gI_Ps1, ↓pV_Ps1, ↓gI_Ps2, ↓pV_Ps2, ↓gI_Ps3, ↓pV_Ps3, ↓gI_Ps4, ↓pV_Ps4, ↓isO_Ps, ↓gI_N0, ↓pV_N0, ↓gI_N1, ↓pV_N1, ↓gI_N2, ↓pV_N2, ↓gI_N3, ↓pV_N3, ↓gR_N4, ↓gR_N5, ↓isO_N, ↓rd_NL, ↓gI_NB0, ↓pV_NB0, ↓gR_NB1, ↓gR_NB2, ↓isO_NB, ↓rd_NC, ↓wr_NC, ↓ln_NC, ↓rd_NP, ↓wr_NP, ↓ln_NP, ↓gI_V0, ↓pV_V0, ↓gI_V1, ↓pV_V1, ↓gI_V2, ↓pV_V2, ↓gI_V3, ↓pV_V3, ↓gR_V4, ↓gR_V5, ↓isO_V, ↓rd_VL, ↓gI_VB0, ↓pV_VB0, ↓gR_VB1, ↓gR_VB2, ↓isO_VB, ↓rd_VC, ↓wr_VC, ↓ln_VC, ↓rd_VP, ↓wr_VP, ↓ln_VP, ↓rd_SL, ↓rd_KP, ↓wr_KP, ↓gI_H0, ↓pV_H0, ↓gI_H1, ↓pV_H1, ↓gR_H2, ↓isO_H, ↓rd_HP, ↓gI_B0, ↓pV_B0, ↓gI_B1, ↓pV_B1, ↓gR_B2, ↓gR_B3, ↓gR_B4, ↓gR_B5, ↓gR_B6, ↓gR_B7, ↓gR_B8, ↓isO_B, ↓rd_B301, ↓wr_B301, ↓ln_B301, ↓rd_B302, ↓wr_B302, ↓ln_B302, ↓rd_B303, ↓wr_B303, ↓ln_B303, ↓rd_B304, ↓wr_B304, ↓ln_B304, ↓rd_B305, ↓wr_B305, ↓ln_B305, ↓rd_B306, ↓wr_B306, ↓ln_B306, ↓rd_B307, ↓wr_B307, ↓ln_B307, ↓gR_Tv, ↓isO_Tv, ↓rd_Tv9, ↓wr_Tv9, ↓ln_Tv9, pV_D11, pV_T0, rd_T2, wr_T2, pV_U0, rd_U2, wr_U2, pV_Ps0, pV_Ps1, pV_Ps2, pV_Ps3, pV_Ps4, pV_N0, pV_N1, pV_N2, pV_N3, rd_NL, pV_NB0, rd_NC, wr_NC, rd_NP, wr_NP, pV_V0, pV_V1, pV_V2, pV_V3, rd_VL, pV_VB0, rd_VC, wr_VC, rd_VP, wr_VP, rd_SL, rd_KP, wr_KP, pV_H0, pV_H1, rd_HP, pV_B0, pV_B1, rd_B301, wr_B301, rd_B302, wr_B302, rd_B303, wr_B303, rd_B304, wr_B304, rd_B305, wr_B305, rd_B306, wr_B306, rd_B307, wr_B307, rd_Tv9, wr_Tv9, ↓isO_M, ↓gL_H, ↓pL_H, ↓gI_M1, ↓gI_M2, ↓gI_M3, ↓gI_M4, ↓gI_M5, ↓gI_M6, ↓gI_M13, ↓gI_M22, ↓gI_M23, ↓gI_M24, ↓gI_M25, ↓gI_M27, ↓gI_M28, ↓gI_M29, ↓gI_M30, ↓gI_M31, ↓gI_M32, ↓gI_M33, ↓gI_M34, ↓gI_M35, ↓gI_M40, ↓gI_M41, ↓gI_M42, ↓gI_M43, ↓pV_M1, ↓pV_M2, ↓pV_M3, ↓pV_M4, ↓pV_M5, ↓pV_M6, ↓pV_M13, ↓pV_M22, ↓pV_M23, ↓pV_M24, ↓pV_M25, ↓pV_M27, ↓pV_M28, ↓pV_M29, ↓pV_M30, ↓pV_M31, ↓pV_M32, ↓pV_M33, ↓pV_M34, ↓pV_M35, ↓pV_M40, ↓pV_M41, ↓pV_M42, ↓pV_M43, ↓gR_M0, ↓gR_M7, ↓gR_M8, ↓gR_M9, ↓gR_M10, ↓gR_M11, ↓gR_M12, ↓gR_M14, ↓gR_M15, ↓gR_M16, ↓gR_M17, ↓gR_M18, ↓gR_M19, ↓gR_M20, ↓gR_M21, ↓gR_M36, ↓gR_M37, ↓gR_M38, ↓gR_M39, ↓rd_M1, ↓rd_M2, ↓rd_M3, ↓rd_M4, ↓rd_M5, ↓rd_M6, ↓rd_M7, ↓rd_M8, ↓rd_M9, ↓rd_M10, ↓rd_M11, ↓rd_M12, ↓rd_M13, ↓rd_M14, ↓rd_M15, ↓rd_M16, ↓rd_M17, ↓rd_M18, ↓rd_M19, ↓wr_M1, ↓wr_M2, ↓wr_M3, ↓wr_M4, ↓wr_M5, ↓wr_M6, ↓wr_M7, ↓wr_M8, ↓wr_M9, ↓wr_M10, ↓wr_M11, ↓wr_M12, ↓wr_M13, ↓wr_M14, ↓wr_M15, ↓wr_M16, ↓wr_M17, ↓wr_M18, ↓wr_M19, pL_H, pV_M1, pV_M2, pV_M3, pV_M4, pV_M5, pV_M6, pV_M13, pV_M22, pV_M23, pV_M24, pV_M25, pV_M27, pV_M28, pV_M29, pV_M30, pV_M31, pV_M32, pV_M33, pV_M34, pV_M35, pV_M40, pV_M41, pV_M42, pV_M43, rd_M1, rd_M2, rd_M3, rd_M4, rd_M5, rd_M6, rd_M7, rd_M8, rd_M9, rd_M10, rd_M11, rd_M12, rd_M13, rd_M14, rd_M15, rd_M16, rd_M17, rd_M18, rd_M19, wr_M1, wr_M2, wr_M3, wr_M4, wr_M5, wr_M6, wr_M7, wr_M8, wr_M9, wr_M10, wr_M11, wr_M12, wr_M13, wr_M14, wr_M15, wr_M16, wr_M17, wr_M18, wr_M19, J_l, J_neg, J_add, J_sub, J_mul, J_lt, J_le, J_eq, J_div2, J_rem2, J_shl1, J_orp, J_or, J_and, J_shr, J_ushr, J_max, J_min, J_abs, J_b0, ↓b0_ite, ↓b0_ite2, b0_ite, bI_r, bV_r, b01_ite, ite_true, ite_false, rZ_b, K_l, J_long, M_in, e1, e2, x1, x2]
  exact ⟨_, w', s', m', rfl, rfl, Inv_keep hI2 KeepM.refl (fun o ho => h3.1 o (by omega) (by omega))⟩
theorem B_setupByte (hg : GT g z) (hI : Inv s m) (hi0 : -2147483648 ≤ i ∧ i < 2147483648) : Both (qD_setupByte z (J i) (hi z TD g w s)) (qM_setupByte y (J i) (hi y TM g' w' m)) z y g g' w w' := by
  obtain ⟨m', e1, hI2, h2⟩ := M_saysSetup (y := y) (g := g') (w := w') (i := i) hI hi0
  have hIk := hI
  obtain ⟨hT, hE, ⟨hH, hNm, hP, row, hB, hO⟩, hS, hHi⟩ := hI
  have hw := hH.1
  have hh := hH.2.1
  have hmt := hH.2.2.1
  have hn := hH.2.2.2
  obtain ⟨s', e2, h3⟩ := C_describe (w := w) hg hP.2 (by omega) (by omega) (by omega) hH.2.2.2 (fun l a b => (hP.1.1 l a b).1) hNm
  have al := alB_len (W := m 3) (nm := m 2) (wd := m 0 3) (hg := m 0 4) (mt := m 0 5) (n := m 0 6) (fun l a b => (hP.1.1 l a b).1.1.2) (m 0 6).toNat (by omega)
  have x1 := h2.2.2.2.2
  have x2 := h3.2.1
  unfold qD_setupByte qM_setupByte
  simp (disch := omega) only [↓gR_D0, ↓gR_D1, ↓gR_D2, ↓gR_D3, ↓gR_D4, ↓gR_D5, ↓gR_D6, ↓gR_D7, ↓gR_D8, ↓gR_D9, ↓gR_D10, ↓gI_D11, ↓pV_D11, ↓isO_D, ↓gI_T0, ↓pV_T0, ↓gR_T1, ↓isO_T, ↓rd_T2, ↓wr_T2, ↓gI_U0, ↓pV_U0, ↓gR_U1, ↓isO_U, ↓rd_U2, ↓wr_U2, ↓gI_Ps0, ↓pV_Ps0, ↓gI_Ps1, ↓pV_Ps1, ↓gI_Ps2, ↓pV_Ps2, ↓gI_Ps3, ↓pV_Ps3, ↓gI_Ps4, ↓pV_Ps4, ↓isO_Ps, ↓gI_N0, ↓pV_N0, ↓gI_N1, ↓pV_N1, ↓gI_N2, ↓pV_N2, ↓gI_N3, ↓pV_N3, ↓gR_N4, ↓gR_N5, ↓isO_N, ↓rd_NL, ↓gI_NB0, ↓pV_NB0, ↓gR_NB1, ↓gR_NB2, ↓isO_NB, ↓rd_NC, ↓wr_NC, ↓ln_NC, ↓rd_NP, ↓wr_NP, ↓ln_NP, ↓gI_V0, ↓pV_V0, ↓gI_V1, ↓pV_V1, ↓gI_V2, ↓pV_V2, ↓gI_V3, ↓pV_V3, ↓gR_V4, ↓gR_V5, ↓isO_V, ↓rd_VL, ↓gI_VB0, ↓pV_VB0, ↓gR_VB1, ↓gR_VB2, ↓isO_VB, ↓rd_VC, ↓wr_VC, ↓ln_VC, ↓rd_VP, ↓wr_VP, ↓ln_VP, ↓rd_SL, ↓rd_KP, ↓wr_KP, ↓gI_H0, ↓pV_H0, ↓gI_H1, ↓pV_H1, ↓gR_H2, ↓isO_H, ↓rd_HP, ↓gI_B0, ↓pV_B0, ↓gI_B1, ↓pV_B1, ↓gR_B2, ↓gR_B3, ↓gR_B4, ↓gR_B5, ↓gR_B6, ↓gR_B7, ↓gR_B8, ↓isO_B, ↓rd_B301, ↓wr_B301, ↓ln_B301, ↓rd_B302, ↓wr_B302, ↓ln_B302, ↓rd_B303, ↓wr_B303, ↓ln_B303, ↓rd_B304, ↓wr_B304, ↓ln_B304, ↓rd_B305, ↓wr_B305, ↓ln_B305, ↓rd_B306, ↓wr_B306, ↓ln_B306, ↓rd_B307, ↓wr_B307, ↓ln_B307, ↓gR_Tv, ↓isO_Tv, ↓rd_Tv9, ↓wr_Tv9, ↓ln_Tv9, pV_D11, pV_T0, rd_T2, wr_T2, pV_U0, rd_U2, wr_U2, pV_Ps0, pV_Ps1, pV_Ps2, pV_Ps3, pV_Ps4, pV_N0, pV_N1, pV_N2, pV_N3, rd_NL, pV_NB0, rd_NC, wr_NC, rd_NP, wr_NP, pV_V0, pV_V1, pV_V2, pV_V3, rd_VL, pV_VB0, rd_VC, wr_VC, rd_VP, wr_VP, rd_SL, rd_KP, wr_KP, pV_H0, pV_H1, rd_HP, pV_B0, pV_B1, rd_B301, wr_B301, rd_B302, wr_B302, rd_B303, wr_B303, rd_B304, wr_B304, rd_B305, wr_B305, rd_B306, wr_B306, rd_B307, wr_B307, rd_Tv9, wr_Tv9, ↓isO_M, ↓gL_H, ↓pL_H, ↓gI_M1, ↓gI_M2, ↓gI_M3, ↓gI_M4, ↓gI_M5, ↓gI_M6, ↓gI_M13, ↓gI_M22, ↓gI_M23, ↓gI_M24, ↓gI_M25, ↓gI_M27, ↓gI_M28, ↓gI_M29, ↓gI_M30, ↓gI_M31, ↓gI_M32, ↓gI_M33, ↓gI_M34, ↓gI_M35, ↓gI_M40, ↓gI_M41, ↓gI_M42, ↓gI_M43, ↓pV_M1, ↓pV_M2, ↓pV_M3, ↓pV_M4, ↓pV_M5, ↓pV_M6, ↓pV_M13, ↓pV_M22, ↓pV_M23, ↓pV_M24, ↓pV_M25, ↓pV_M27, ↓pV_M28, ↓pV_M29, ↓pV_M30, ↓pV_M31, ↓pV_M32, ↓pV_M33, ↓pV_M34, ↓pV_M35, ↓pV_M40, ↓pV_M41, ↓pV_M42, ↓pV_M43, ↓gR_M0, ↓gR_M7, ↓gR_M8, ↓gR_M9, ↓gR_M10, ↓gR_M11, ↓gR_M12, ↓gR_M14, ↓gR_M15, ↓gR_M16, ↓gR_M17, ↓gR_M18, ↓gR_M19, ↓gR_M20, ↓gR_M21, ↓gR_M36, ↓gR_M37, ↓gR_M38, ↓gR_M39, ↓rd_M1, ↓rd_M2, ↓rd_M3, ↓rd_M4, ↓rd_M5, ↓rd_M6, ↓rd_M7, ↓rd_M8, ↓rd_M9, ↓rd_M10, ↓rd_M11, ↓rd_M12, ↓rd_M13, ↓rd_M14, ↓rd_M15, ↓rd_M16, ↓rd_M17, ↓rd_M18, ↓rd_M19, ↓wr_M1, ↓wr_M2, ↓wr_M3, ↓wr_M4, ↓wr_M5, ↓wr_M6, ↓wr_M7, ↓wr_M8, ↓wr_M9, ↓wr_M10, ↓wr_M11, ↓wr_M12, ↓wr_M13, ↓wr_M14, ↓wr_M15, ↓wr_M16, ↓wr_M17, ↓wr_M18, ↓wr_M19, pL_H, pV_M1, pV_M2, pV_M3, pV_M4, pV_M5, pV_M6, pV_M13, pV_M22, pV_M23, pV_M24, pV_M25, pV_M27, pV_M28, pV_M29, pV_M30, pV_M31, pV_M32, pV_M33, pV_M34, pV_M35, pV_M40, pV_M41, pV_M42, pV_M43, rd_M1, rd_M2, rd_M3, rd_M4, rd_M5, rd_M6, rd_M7, rd_M8, rd_M9, rd_M10, rd_M11, rd_M12, rd_M13, rd_M14, rd_M15, rd_M16, rd_M17, rd_M18, rd_M19, wr_M1, wr_M2, wr_M3, wr_M4, wr_M5, wr_M6, wr_M7, wr_M8, wr_M9, wr_M10, wr_M11, wr_M12, wr_M13, wr_M14, wr_M15, wr_M16, wr_M17, wr_M18, wr_M19, J_l, J_neg, J_add, J_sub, J_mul, J_lt, J_le, J_eq, J_div2, J_rem2, J_shl1, J_orp, J_or, J_and, J_shr, J_ushr, J_max, J_min, J_abs, J_b0, ↓b0_ite, ↓b0_ite2, b0_ite, bI_r, bV_r, b01_ite, ite_true, ite_false, rZ_b, K_l, J_long, M_in, e1, e2, x2]
  by_cases h1 : i < 0
  · rw [if_pos h1, if_pos h1]
    exact B_keep hIk rfl rfl KeepS.refl KeepM.refl
  rw [if_neg h1, if_neg h1]
  by_cases h4 : i < ((alB (m 3) (m 2) (m 0 3) (m 0 4) (m 0 5) (m 0 6).toNat).length : Int)
  · rw [if_pos h4]
    rw [if_pos ⟨by omega, h4⟩] at x1
    have x3 := h3.2.2 i.toNat (by omega)
    rw [show ((i.toNat : Nat) : Int) = i by omega] at x3
    have a255 : iand (s' 4 i) 255 = s' 4 i := by
      have := x3.2
      rw [x3.1]
      generalize (alB (m 3) (m 2) (m 0 3) (m 0 4) (m 0 5) (m 0 6).toNat).getD i.toNat 0 = b at this
      unfold iand
      rw [show (255 : Int).toNat = 2 ^ 8 - 1 from rfl, Nat.and_two_pow_sub_one_eq_mod]
      omega
    have b4 : 0 ≤ s' 4 i ∧ s' 4 i < 128 := by rw [x3.1]; exact x3.2
    unfold qT_byteAt
    simp (disch := omega) only [↓gR_D0, ↓gR_D1, ↓gR_D2, ↓gR_D3, ↓gR_D4, ↓gR_D5, ↓gR_D6, ↓gR_D7, ↓gR_D8, ↓gR_D9, ↓gR_D10, ↓gI_D11, ↓pV_D11, ↓isO_D, ↓gI_T0, ↓pV_T0, ↓gR_T1, ↓isO_T, ↓rd_T2, ↓wr_T2, ↓gI_U0, ↓pV_U0, ↓gR_U1, ↓isO_U, ↓rd_U2, ↓wr_U2, ↓gI_Ps0, ↓pV_Ps0, ↓gI_Ps1, ↓pV_Ps1, ↓gI_Ps2, ↓pV_Ps2, ↓gI_Ps3, ↓pV_Ps3, ↓gI_Ps4, ↓pV_Ps4, ↓isO_Ps, ↓gI_N0, ↓pV_N0, ↓gI_N1, ↓pV_N1, ↓gI_N2, ↓pV_N2, ↓gI_N3, ↓pV_N3, ↓gR_N4, ↓gR_N5, ↓isO_N, ↓rd_NL, ↓gI_NB0, ↓pV_NB0, ↓gR_NB1, ↓gR_NB2, ↓isO_NB, ↓rd_NC, ↓wr_NC, ↓ln_NC, ↓rd_NP, ↓wr_NP, ↓ln_NP, ↓gI_V0, ↓pV_V0, ↓gI_V1, ↓pV_V1, ↓gI_V2, ↓pV_V2, ↓gI_V3, ↓pV_V3, ↓gR_V4, ↓gR_V5, ↓isO_V, ↓rd_VL, ↓gI_VB0, ↓pV_VB0, ↓gR_VB1, ↓gR_VB2, ↓isO_VB, ↓rd_VC, ↓wr_VC, ↓ln_VC, ↓rd_VP, ↓wr_VP, ↓ln_VP, ↓rd_SL, ↓rd_KP, ↓wr_KP, ↓gI_H0, ↓pV_H0, ↓gI_H1, ↓pV_H1, ↓gR_H2, ↓isO_H, ↓rd_HP, ↓gI_B0, ↓pV_B0, ↓gI_B1, ↓pV_B1, ↓gR_B2, ↓gR_B3, ↓gR_B4, ↓gR_B5, ↓gR_B6, ↓gR_B7, ↓gR_B8, ↓isO_B, ↓rd_B301, ↓wr_B301, ↓ln_B301, ↓rd_B302, ↓wr_B302, ↓ln_B302, ↓rd_B303, ↓wr_B303, ↓ln_B303, ↓rd_B304, ↓wr_B304, ↓ln_B304, ↓rd_B305, ↓wr_B305, ↓ln_B305, ↓rd_B306, ↓wr_B306, ↓ln_B306, ↓rd_B307, ↓wr_B307, ↓ln_B307, ↓gR_Tv, ↓isO_Tv, ↓rd_Tv9, ↓wr_Tv9, ↓ln_Tv9, pV_D11, pV_T0, rd_T2, wr_T2, pV_U0, rd_U2, wr_U2, pV_Ps0, pV_Ps1, pV_Ps2, pV_Ps3, pV_Ps4, pV_N0, pV_N1, pV_N2, pV_N3, rd_NL, pV_NB0, rd_NC, wr_NC, rd_NP, wr_NP, pV_V0, pV_V1, pV_V2, pV_V3, rd_VL, pV_VB0, rd_VC, wr_VC, rd_VP, wr_VP, rd_SL, rd_KP, wr_KP, pV_H0, pV_H1, rd_HP, pV_B0, pV_B1, rd_B301, wr_B301, rd_B302, wr_B302, rd_B303, wr_B303, rd_B304, wr_B304, rd_B305, wr_B305, rd_B306, wr_B306, rd_B307, wr_B307, rd_Tv9, wr_Tv9, ↓isO_M, ↓gL_H, ↓pL_H, ↓gI_M1, ↓gI_M2, ↓gI_M3, ↓gI_M4, ↓gI_M5, ↓gI_M6, ↓gI_M13, ↓gI_M22, ↓gI_M23, ↓gI_M24, ↓gI_M25, ↓gI_M27, ↓gI_M28, ↓gI_M29, ↓gI_M30, ↓gI_M31, ↓gI_M32, ↓gI_M33, ↓gI_M34, ↓gI_M35, ↓gI_M40, ↓gI_M41, ↓gI_M42, ↓gI_M43, ↓pV_M1, ↓pV_M2, ↓pV_M3, ↓pV_M4, ↓pV_M5, ↓pV_M6, ↓pV_M13, ↓pV_M22, ↓pV_M23, ↓pV_M24, ↓pV_M25, ↓pV_M27, ↓pV_M28, ↓pV_M29, ↓pV_M30, ↓pV_M31, ↓pV_M32, ↓pV_M33, ↓pV_M34, ↓pV_M35, ↓pV_M40, ↓pV_M41, ↓pV_M42, ↓pV_M43, ↓gR_M0, ↓gR_M7, ↓gR_M8, ↓gR_M9, ↓gR_M10, ↓gR_M11, ↓gR_M12, ↓gR_M14, ↓gR_M15, ↓gR_M16, ↓gR_M17, ↓gR_M18, ↓gR_M19, ↓gR_M20, ↓gR_M21, ↓gR_M36, ↓gR_M37, ↓gR_M38, ↓gR_M39, ↓rd_M1, ↓rd_M2, ↓rd_M3, ↓rd_M4, ↓rd_M5, ↓rd_M6, ↓rd_M7, ↓rd_M8, ↓rd_M9, ↓rd_M10, ↓rd_M11, ↓rd_M12, ↓rd_M13, ↓rd_M14, ↓rd_M15, ↓rd_M16, ↓rd_M17, ↓rd_M18, ↓rd_M19, ↓wr_M1, ↓wr_M2, ↓wr_M3, ↓wr_M4, ↓wr_M5, ↓wr_M6, ↓wr_M7, ↓wr_M8, ↓wr_M9, ↓wr_M10, ↓wr_M11, ↓wr_M12, ↓wr_M13, ↓wr_M14, ↓wr_M15, ↓wr_M16, ↓wr_M17, ↓wr_M18, ↓wr_M19, pL_H, pV_M1, pV_M2, pV_M3, pV_M4, pV_M5, pV_M6, pV_M13, pV_M22, pV_M23, pV_M24, pV_M25, pV_M27, pV_M28, pV_M29, pV_M30, pV_M31, pV_M32, pV_M33, pV_M34, pV_M35, pV_M40, pV_M41, pV_M42, pV_M43, rd_M1, rd_M2, rd_M3, rd_M4, rd_M5, rd_M6, rd_M7, rd_M8, rd_M9, rd_M10, rd_M11, rd_M12, rd_M13, rd_M14, rd_M15, rd_M16, rd_M17, rd_M18, rd_M19, wr_M1, wr_M2, wr_M3, wr_M4, wr_M5, wr_M6, wr_M7, wr_M8, wr_M9, wr_M10, wr_M11, wr_M12, wr_M13, wr_M14, wr_M15, wr_M16, wr_M17, wr_M18, wr_M19, J_l, J_neg, J_add, J_sub, J_mul, J_lt, J_le, J_eq, J_div2, J_rem2, J_shl1, J_orp, J_or, J_and, J_shr, J_ushr, J_max, J_min, J_abs, J_b0, ↓b0_ite, ↓b0_ite2, b0_ite, bI_r, bV_r, b01_ite, ite_true, ite_false, rZ_b, K_l, J_long, M_in, x2, a255]
    rw [if_neg h1, if_pos h4]
    refine ⟨_, w', s', m', rfl, ?_, Inv_keep hI2 KeepM.refl (fun o ho => h3.1 o (by omega) (by omega))⟩
    rw [x1, x3.1]
  · rw [if_neg h4]
    rw [if_neg (fun q => h4 q.2)] at x1
    simp (disch := omega) only [↓isO_M, ↓gL_H, ↓pL_H, ↓gI_M1, ↓gI_M2, ↓gI_M3, ↓gI_M4, ↓gI_M5, ↓gI_M6, ↓gI_M13, ↓gI_M22, ↓gI_M23, ↓gI_M24, ↓gI_M25, ↓gI_M27, ↓gI_M28, ↓gI_M29, ↓gI_M30, ↓gI_M31, ↓gI_M32, ↓gI_M33, ↓gI_M34, ↓gI_M35, ↓gI_M40, ↓gI_M41, ↓gI_M42, ↓gI_M43, ↓pV_M1, ↓pV_M2, ↓pV_M3, ↓pV_M4, ↓pV_M5, ↓pV_M6, ↓pV_M13, ↓pV_M22, ↓pV_M23, ↓pV_M24, ↓pV_M25, ↓pV_M27, ↓pV_M28, ↓pV_M29, ↓pV_M30, ↓pV_M31, ↓pV_M32, ↓pV_M33, ↓pV_M34, ↓pV_M35, ↓pV_M40, ↓pV_M41, ↓pV_M42, ↓pV_M43, ↓gR_M0, ↓gR_M7, ↓gR_M8, ↓gR_M9, ↓gR_M10, ↓gR_M11, ↓gR_M12, ↓gR_M14, ↓gR_M15, ↓gR_M16, ↓gR_M17, ↓gR_M18, ↓gR_M19, ↓gR_M20, ↓gR_M21, ↓gR_M36, ↓gR_M37, ↓gR_M38, ↓gR_M39, ↓rd_M1, ↓rd_M2, ↓rd_M3, ↓rd_M4, ↓rd_M5, ↓rd_M6, ↓rd_M7, ↓rd_M8, ↓rd_M9, ↓rd_M10, ↓rd_M11, ↓rd_M12, ↓rd_M13, ↓rd_M14, ↓rd_M15, ↓rd_M16, ↓rd_M17, ↓rd_M18, ↓rd_M19, ↓wr_M1, ↓wr_M2, ↓wr_M3, ↓wr_M4, ↓wr_M5, ↓wr_M6, ↓wr_M7, ↓wr_M8, ↓wr_M9, ↓wr_M10, ↓wr_M11, ↓wr_M12, ↓wr_M13, ↓wr_M14, ↓wr_M15, ↓wr_M16, ↓wr_M17, ↓wr_M18, ↓wr_M19, pL_H, pV_M1, pV_M2, pV_M3, pV_M4, pV_M5, pV_M6, pV_M13, pV_M22, pV_M23, pV_M24, pV_M25, pV_M27, pV_M28, pV_M29, pV_M30, pV_M31, pV_M32, pV_M33, pV_M34, pV_M35, pV_M40, pV_M41, pV_M42, pV_M43, rd_M1, rd_M2, rd_M3, rd_M4, rd_M5, rd_M6, rd_M7, rd_M8, rd_M9, rd_M10, rd_M11, rd_M12, rd_M13, rd_M14, rd_M15, rd_M16, rd_M17, rd_M18, rd_M19, wr_M1, wr_M2, wr_M3, wr_M4, wr_M5, wr_M6, wr_M7, wr_M8, wr_M9, wr_M10, wr_M11, wr_M12, wr_M13, wr_M14, wr_M15, wr_M16, wr_M17, wr_M18, wr_M19, J_l, J_neg, J_add, J_sub, J_mul, J_lt, J_le, J_eq, J_div2, J_rem2, J_shl1, J_orp, J_or, J_and, J_shr, J_ushr, J_max, J_min, J_abs, J_b0, ↓b0_ite, ↓b0_ite2, b0_ite, bI_r, bV_r, b01_ite, ite_true, ite_false, rZ_b, K_l, J_long, M_in, x1]
    exact ⟨_, w', s', m', rfl, rfl, Inv_keep hI2 KeepM.refl (fun o ho => h3.1 o (by omega) (by omega))⟩
end ST
