/-! a line's points on both sides -/
section LPT
variable {z y : Nat} {g g' : XH} {w w' : Int64} {s s' s0 s1 s2 m m' m0 m1 m2 : CT} {G W W' V W1 row row' r0 nm lo lg sn f : Int → Int} {wd hg mt c i j l n p v t k x xx yy N q o to : Int} {a b : Nat} {h : XH}
variable {k r u e d lw up st nv zv tv : Int} {w1 w2 w3 : Int64} {x1 x2 x3 x4 x5 : Int32} {N1 N2 D : Nat} {P Q : XR}
def LnR (P Q : XR) (z y : Nat) (g g' : XH) (w : Int64) (s m : CT) (l : Int) : Prop := (∃ s' m' w2, P = rI (J 0) (hi z TD g w s') ∧ Q = rV (hi y TM g' w2 m') ∧ NF s' m' ∧ FC s s' ∧ FMm m m') ∨ ∃ s' m' w2, P = rI (J 1) (hi z TD g w s') ∧ Q = rV (hi y TM g' w2 m') ∧ JL s' m' w2 ∧ FC s s' ∧ FMm m m' ∧ LnE s' m' l
theorem LnR.tr (h1 : FC s s1) (h2 : FMm m m1) (h : LnR P Q z y g g' w s1 m1 l) : LnR P Q z y g g' w s m l := by
  rcases h with ⟨s', m', w2, a1, a2, a3, a4, a5⟩ | ⟨s', m', w2, a1, a2, a3, a4, a5, a6⟩
  · exact Or.inl ⟨s', m', w2, a1, a2, a3, FC.trans h1 a4, FMm.trans h2 a5⟩
  · exact Or.inr ⟨s', m', w2, a1, a2, a3, FC.trans h1 a4, FMm.trans h2 a5, a6⟩
theorem C_to95 (h : JL s m w') (hk : 0 ≤ k ∧ k ≤ 10) (hat : ¬(s 5 2 = 10 ∧ k < 10)) {k3 : Nat → Nat → Nat → Nat → Int32 → XH → XR} {c : Nat} : qPs_readPoints_3_b k3 (z + 5) (z + 1) (z + 35) c (J k) (hi z TD g w s) = qPs_readPoints_95 (z + 5) (z + 1) c (hi z TD g w s) := by
  have tb := TkR_bd h.1.2.2.2
  unfold qPs_readPoints_3_b
  simp (disch := first | assumption | omega) only [↓gR_D0, ↓gR_D1, ↓gR_D2, ↓gR_D3, ↓gR_D4, ↓gR_D5, ↓gR_D6, ↓gR_D7, ↓gR_D8, ↓gR_D9, ↓gR_D10, ↓gI_D11, ↓pV_D11, ↓isO_D, ↓gI_T0, ↓pV_T0, ↓gR_T1, ↓isO_T, ↓rd_T2, ↓wr_T2, ↓gI_U0, ↓pV_U0, ↓gR_U1, ↓isO_U, ↓rd_U2, ↓wr_U2, ↓gI_Ps0, ↓pV_Ps0, ↓gI_Ps1, ↓pV_Ps1, ↓gI_Ps2, ↓pV_Ps2, ↓gI_Ps3, ↓pV_Ps3, ↓gI_Ps4, ↓pV_Ps4, ↓isO_Ps, ↓gI_N0, ↓pV_N0, ↓gI_N1, ↓pV_N1, ↓gI_N2, ↓pV_N2, ↓gI_N3, ↓pV_N3, ↓gR_N4, ↓gR_N5, ↓isO_N, ↓rd_NL, ↓gI_NB0, ↓pV_NB0, ↓gR_NB1, ↓gR_NB2, ↓isO_NB, ↓rd_NC, ↓wr_NC, ↓ln_NC, ↓rd_NP, ↓wr_NP, ↓ln_NP, ↓gI_V0, ↓pV_V0, ↓gI_V1, ↓pV_V1, ↓gI_V2, ↓pV_V2, ↓gI_V3, ↓pV_V3, ↓gR_V4, ↓gR_V5, ↓isO_V, ↓rd_VL, ↓gI_VB0, ↓pV_VB0, ↓gR_VB1, ↓gR_VB2, ↓isO_VB, ↓rd_VC, ↓wr_VC, ↓ln_VC, ↓rd_VP, ↓wr_VP, ↓ln_VP, ↓rd_SL, ↓rd_KP, ↓wr_KP, ↓gI_H0, ↓pV_H0, ↓gI_H1, ↓pV_H1, ↓gR_H2, ↓isO_H, ↓rd_HP, ↓gI_B0, ↓pV_B0, ↓gI_B1, ↓pV_B1, ↓gR_B2, ↓gR_B3, ↓gR_B4, ↓gR_B5, ↓gR_B6, ↓gR_B7, ↓gR_B8, ↓isO_B, ↓rd_B301, ↓wr_B301, ↓ln_B301, ↓rd_B302, ↓wr_B302, ↓ln_B302, ↓rd_B303, ↓wr_B303, ↓ln_B303, ↓rd_B304, ↓wr_B304, ↓ln_B304, ↓rd_B305, ↓wr_B305, ↓ln_B305, ↓rd_B306, ↓wr_B306, ↓ln_B306, ↓rd_B307, ↓wr_B307, ↓ln_B307, ↓gR_Tv, ↓isO_Tv, ↓rd_Tv9, ↓wr_Tv9, ↓ln_Tv9, pV_D11, pV_T0, rd_T2, wr_T2, pV_U0, rd_U2, wr_U2, pV_Ps0, pV_Ps1, pV_Ps2, pV_Ps3, pV_Ps4, pV_N0, pV_N1, pV_N2, pV_N3, rd_NL, pV_NB0, rd_NC, wr_NC, rd_NP, wr_NP, pV_V0, pV_V1, pV_V2, pV_V3, rd_VL, pV_VB0, rd_VC, wr_VC, rd_VP, wr_VP, rd_SL, rd_KP, wr_KP, pV_H0, pV_H1, rd_HP, pV_B0, pV_B1, rd_B301, wr_B301, rd_B302, wr_B302, rd_B303, wr_B303, rd_B304, wr_B304, rd_B305, wr_B305, rd_B306, wr_B306, rd_B307, wr_B307, rd_Tv9, wr_Tv9, ↓isO_L, ↓gI_L0, ↓pV_L0, ↓gI_L1, ↓pV_L1, ↓gI_L2, ↓pV_L2, ↓gI_L3, ↓pV_L3, ↓gR_L4, ↓rd_L4, ↓wr_L4, ↓gR_L5, ↓rd_L5, ↓wr_L5, pV_L0, pV_L1, pV_L2, pV_L3, rd_L4, wr_L4, rd_L5, wr_L5, J_l, J_neg, J_add, J_sub, J_mul, J_lt, J_le, J_eq, J_div2, J_rem2, J_shl1, J_orp, J_or, J_and, J_shr, J_ushr, J_max, J_min, J_abs, J_b0, ↓b0_ite, ↓b0_ite2, b0_ite, bI_r, bV_r, b01_ite, ite_true, ite_false, rZ_b, K_l, J_long, M_in]
  by_cases h1 : s 5 2 = 10
  · rw [if_pos h1, if_neg (fun q => hat ⟨h1, q⟩)]
  · rw [if_neg h1]
theorem C_few (hl : 0 ≤ l ∧ l < 8) (h1 : s (40 + 3 * l.toNat) 1 = k) (hk : 0 ≤ k ∧ k < 2) : qPs_readPoints_95 (z + 5) (z + 1) (z + (40 + 3 * l.toNat)) (hi z TD g w s) = rI (J 0) (hi z TD g w s) := by
  have hLn := isLn_40 hl
  unfold qPs_readPoints_95
  simp (disch := first | assumption | omega) only [↓gR_D0, ↓gR_D1, ↓gR_D2, ↓gR_D3, ↓gR_D4, ↓gR_D5, ↓gR_D6, ↓gR_D7, ↓gR_D8, ↓gR_D9, ↓gR_D10, ↓gI_D11, ↓pV_D11, ↓isO_D, ↓gI_T0, ↓pV_T0, ↓gR_T1, ↓isO_T, ↓rd_T2, ↓wr_T2, ↓gI_U0, ↓pV_U0, ↓gR_U1, ↓isO_U, ↓rd_U2, ↓wr_U2, ↓gI_Ps0, ↓pV_Ps0, ↓gI_Ps1, ↓pV_Ps1, ↓gI_Ps2, ↓pV_Ps2, ↓gI_Ps3, ↓pV_Ps3, ↓gI_Ps4, ↓pV_Ps4, ↓isO_Ps, ↓gI_N0, ↓pV_N0, ↓gI_N1, ↓pV_N1, ↓gI_N2, ↓pV_N2, ↓gI_N3, ↓pV_N3, ↓gR_N4, ↓gR_N5, ↓isO_N, ↓rd_NL, ↓gI_NB0, ↓pV_NB0, ↓gR_NB1, ↓gR_NB2, ↓isO_NB, ↓rd_NC, ↓wr_NC, ↓ln_NC, ↓rd_NP, ↓wr_NP, ↓ln_NP, ↓gI_V0, ↓pV_V0, ↓gI_V1, ↓pV_V1, ↓gI_V2, ↓pV_V2, ↓gI_V3, ↓pV_V3, ↓gR_V4, ↓gR_V5, ↓isO_V, ↓rd_VL, ↓gI_VB0, ↓pV_VB0, ↓gR_VB1, ↓gR_VB2, ↓isO_VB, ↓rd_VC, ↓wr_VC, ↓ln_VC, ↓rd_VP, ↓wr_VP, ↓ln_VP, ↓rd_SL, ↓rd_KP, ↓wr_KP, ↓gI_H0, ↓pV_H0, ↓gI_H1, ↓pV_H1, ↓gR_H2, ↓isO_H, ↓rd_HP, ↓gI_B0, ↓pV_B0, ↓gI_B1, ↓pV_B1, ↓gR_B2, ↓gR_B3, ↓gR_B4, ↓gR_B5, ↓gR_B6, ↓gR_B7, ↓gR_B8, ↓isO_B, ↓rd_B301, ↓wr_B301, ↓ln_B301, ↓rd_B302, ↓wr_B302, ↓ln_B302, ↓rd_B303, ↓wr_B303, ↓ln_B303, ↓rd_B304, ↓wr_B304, ↓ln_B304, ↓rd_B305, ↓wr_B305, ↓ln_B305, ↓rd_B306, ↓wr_B306, ↓ln_B306, ↓rd_B307, ↓wr_B307, ↓ln_B307, ↓gR_Tv, ↓isO_Tv, ↓rd_Tv9, ↓wr_Tv9, ↓ln_Tv9, pV_D11, pV_T0, rd_T2, wr_T2, pV_U0, rd_U2, wr_U2, pV_Ps0, pV_Ps1, pV_Ps2, pV_Ps3, pV_Ps4, pV_N0, pV_N1, pV_N2, pV_N3, rd_NL, pV_NB0, rd_NC, wr_NC, rd_NP, wr_NP, pV_V0, pV_V1, pV_V2, pV_V3, rd_VL, pV_VB0, rd_VC, wr_VC, rd_VP, wr_VP, rd_SL, rd_KP, wr_KP, pV_H0, pV_H1, rd_HP, pV_B0, pV_B1, rd_B301, wr_B301, rd_B302, wr_B302, rd_B303, wr_B303, rd_B304, wr_B304, rd_B305, wr_B305, rd_B306, wr_B306, rd_B307, wr_B307, rd_Tv9, wr_Tv9, ↓isO_L, ↓gI_L0, ↓pV_L0, ↓gI_L1, ↓pV_L1, ↓gI_L2, ↓pV_L2, ↓gI_L3, ↓pV_L3, ↓gR_L4, ↓rd_L4, ↓wr_L4, ↓gR_L5, ↓rd_L5, ↓wr_L5, pV_L0, pV_L1, pV_L2, pV_L3, rd_L4, wr_L4, rd_L5, wr_L5, J_l, J_neg, J_add, J_sub, J_mul, J_lt, J_le, J_eq, J_div2, J_rem2, J_shl1, J_orp, J_or, J_and, J_shr, J_ushr, J_max, J_min, J_abs, J_b0, ↓b0_ite, ↓b0_ite2, b0_ite, bI_r, bV_r, b01_ite, ite_true, ite_false, rZ_b, K_l, J_long, M_in, h1]
  rw [if_pos hk.2]
theorem loop_pts (hg0 : GOk g z) : ∀ (D : Nat) (k : Int) (s m : CT) (w' : Int64), k + D = 10 → 2 ≤ k → JL s m w' → PB s m l k → LnI s m l → PtJ s m l k nv zv tv → ∀ N1 N2 : Nat, D + 1 ≤ N1 → D + 2 ≤ N2 → LnR (qPs_readPoints_3 N1 (z + 5) (z + 1) (z + 35) (z + (40 + 3 * l.toNat)) (J k) (hi z TD g w s)) (qM_readLine_89 N2 y (J nv) (J zv) (J tv) (hi y TM g' w' m)) z y g g' w s m l := by
  intro D
  induction D with
  | zero =>
    intro k s m w' hkD hk2 h hb hln hp N1 N2 h1 h2
    obtain ⟨a, rfl⟩ : ∃ a, N1 = a + 1 := ⟨N1 - 1, by omega⟩
    obtain ⟨b, rfl⟩ : ∃ b, N2 = b + 2 := ⟨N2 - 2, by omega⟩
    have e := C_to95 (z := z) (g := g) (w := w) (k3 := qPs_readPoints_3 a) (c := z + (40 + 3 * l.toNat)) h hb.2.2.2.2 (fun q => by omega)
    have x := line_end (z := z) (y := y) (g := g) (g' := g') (w := w) hg0 h hb hln hp hk2 (fun q => by omega)
    show LnR (qPs_readPoints_3_b (qPs_readPoints_3 a) (z + 5) (z + 1) (z + 35) (z + (40 + 3 * l.toNat)) (J k) (hi z TD g w s)) _ z y g g' w s m l
    rw [e]
    rcases x with ⟨s', m', w2, a1, a2, a3⟩ | ⟨s', m', w2, a1, a2, a3⟩
    · exact Or.inl ⟨s', m', w2, a1, a2 b, a3⟩
    · exact Or.inr ⟨s', m', w2, a1, a2 b, a3⟩
  | succ D ih =>
    intro k s m w' hkD hk2 h hb hln hp N1 N2 h1 h2
    obtain ⟨a, rfl⟩ : ∃ a, N1 = a + 1 := ⟨N1 - 1, by omega⟩
    obtain ⟨b, rfl⟩ : ∃ b, N2 = b + 2 := ⟨N2 - 2, by omega⟩
    show LnR (qPs_readPoints_3_b (qPs_readPoints_3 a) (z + 5) (z + 1) (z + 35) (z + (40 + 3 * l.toNat)) (J k) (hi z TD g w s)) _ z y g g' w s m l
    by_cases hat : s 5 2 = 10 ∧ k < 10
    · have ih0 := isHere_ok (y := y) (g := g') (v := K (keyN 10)) h
      rw [b01_pos ((key_iff h (by omega)).mpr hat.1)] at ih0
      have ih' : qM_isHere y (52 : Int64) (hi y TM g' w' m) = rI (J 1) (hi y TM g' w' m) := ih0
      have eM : qM_readLine_89 (b + 2) y (J nv) (J zv) (J tv) (hi y TM g' w' m) = bV (qM_readPoint y (hi y TM g' w' m)) (fun h3 => qM_readLine_89 (b + 1) y (J nv) (J zv) (J tv) h3) := by
        show qM_readLine_89_b (qM_readLine_89 (b + 1)) y (J nv) (J zv) (J tv) (hi y TM g' w' m) = _
        unfold qM_readLine_89_b
        rw [isO_M, ih', bI_r, if_neg (show ¬J 1 = (0 : Int32) by decide), isO_M]
      rw [eM]
      rcases pt_step (z := z) (y := y) (g := g) (g' := g') (w := w) (k3 := qPs_readPoints_3 a) hg0 h hb hln hp hat.2 hat.1 with ⟨s', m', w2, a1, a2, a3, a4, a5⟩ | ⟨s', m', w2, a1, a2, a3, a4, a5, a6, a7, a8⟩
      · rw [a1, a2, bV_r, line89_nf a3.1]
        exact Or.inl ⟨s', m', w2, rfl, rfl, a3, a4, a5⟩
      · rw [a1, a2, bV_r]
        exact LnR.tr a7 a8 (ih (k + 1) s' m' w2 (by omega) (by omega) a3 a4 a5 a6 a (b + 1) (by omega) (by omega))
    · rw [C_to95 (z := z) (g := g) (w := w) h hb.2.2.2.2 hat]
      rcases line_end (z := z) (y := y) (g := g) (g' := g') (w := w) hg0 h hb hln hp hk2 hat with ⟨s', m', w2, a1, a2, a3⟩ | ⟨s', m', w2, a1, a2, a3⟩
      · exact Or.inl ⟨s', m', w2, a1, a2 b, a3⟩
      · exact Or.inr ⟨s', m', w2, a1, a2 b, a3⟩
theorem line89_nfL (h : m 0 29 = 0) : qM_readLine_89 LF y x1 x2 x3 (hi y TM g w m) = rV (hi y TM g w m) := line89_nf (N1 := 19999) h
/-- all the points, from none -/
theorem pts_both (hg0 : GOk g z) (h : JL s m w') (hb : PB s m l 0) (hln : LnI s m l) (hp : PtJ s m l 0 nv zv tv) : LnR (qPs_readPoints (z + 5) (z + 1) (z + 35) (z + (40 + 3 * l.toNat)) (hi z TD g w s)) (bV (qM_readPoint y (hi y TM g' w' m)) (fun h13 => isO h13 y 9 (bV (qM_readPoint y h13) (fun h14 => qM_readLine_89 LF y (J nv) (J zv) (J tv) h14)))) z y g g' w s m l := by
  unfold qPs_readPoints
  have key : ∀ N : Nat, 12 ≤ N → LnR (qPs_readPoints_3 (N + 2) (z + 5) (z + 1) (z + 35) (z + (40 + 3 * l.toNat)) (J 0) (hi z TD g w s)) (bV (qM_readPoint y (hi y TM g' w' m)) (fun h13 => isO h13 y 9 (bV (qM_readPoint y h13) (fun h14 => qM_readLine_89 LF y (J nv) (J zv) (J tv) h14)))) z y g g' w s m l := by
    intro N hN
    show LnR (qPs_readPoints_3_b (qPs_readPoints_3 (N + 1)) (z + 5) (z + 1) (z + 35) (z + (40 + 3 * l.toNat)) (J 0) (hi z TD g w s)) _ z y g g' w s m l
    by_cases h0 : s 5 2 = 10
    · rcases pt_step (z := z) (y := y) (g := g) (g' := g') (w := w) (k3 := qPs_readPoints_3 (N + 1)) hg0 h hb hln hp (by omega) h0 with ⟨s1, m1, w1, a1, a2, a3, a4, a5⟩ | ⟨s1, m1, w1, a1, a2, a3, a4, a5, a6, a7, a8⟩
      · rw [a1, a2, bV_r, isO_M, point_nf a3.1, bV_r, line89_nfL a3.1]
        exact Or.inl ⟨s1, m1, w1, rfl, rfl, a3, a4, a5⟩
      · rw [a1, a2, bV_r, isO_M]
        refine LnR.tr a7 a8 ?_
        show LnR (qPs_readPoints_3_b (qPs_readPoints_3 N) (z + 5) (z + 1) (z + 35) (z + (40 + 3 * l.toNat)) (J 1) (hi z TD g w s1)) _ z y g g' w s1 m1 l
        have a4' : PB s1 m1 l 1 := a4
        have a6' : PtJ s1 m1 l 1 nv zv tv := a6
        by_cases h1 : s1 5 2 = 10
        · rcases pt_step (z := z) (y := y) (g := g) (g' := g') (w := w) (k3 := qPs_readPoints_3 N) hg0 a3 a4' a5 a6' (by omega) h1 with ⟨s2, m2, w2, b1, b2, b3, b4, b5⟩ | ⟨s2, m2, w2, b1, b2, b3, b4, b5, b6, b7, b8⟩
          · rw [b1, b2, bV_r, line89_nfL b3.1]
            exact Or.inl ⟨s2, m2, w2, rfl, rfl, b3, b4, b5⟩
          · rw [b1, b2, bV_r]
            have b4' : PB s2 m2 l 2 := b4
            have b6' : PtJ s2 m2 l 2 nv zv tv := b6
            exact LnR.tr b7 b8 (loop_pts hg0 8 2 s2 m2 w2 (by omega) (by omega) b3 b4' b5 b6' N LF (by omega) (by decide))
        · rw [C_to95 (z := z) (g := g) (w := w) a3 (by omega) (fun q => h1 q.1), C_few a4'.2.2.2.1 a6'.1.2.1 (by omega)]
          have m34 := a6'.2.2.2.1.1
          have nf := failM_n a3
          rw [point_no a3 (fun q => h1 q.1) (by omega), bV_r, line89_nfL nf.1]
          exact Or.inl ⟨s1, failM m1, w1, rfl, rfl, nf, FC.refl, failM_f⟩
    · rw [C_to95 (z := z) (g := g) (w := w) h (by omega) (fun q => h0 q.1), C_few hb.2.2.2.1 hp.1.2.1 (by omega)]
      have m34 := hp.2.2.2.1.1
      have nf := failM_n h
      rw [point_no h (fun q => h0 q.1) (by omega), bV_r, isO_M, point_nf nf.1, bV_r, line89_nfL nf.1]
      exact Or.inl ⟨s, failM m, w', rfl, rfl, nf, FC.refl, failM_f⟩
  exact key 19998 (by omega)
end LPT
