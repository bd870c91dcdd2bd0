/-! a line's head on both sides, whole -/
section LHW
variable {z y : Nat} {g g' : XH} {w w' : Int64} {s s' s0 s1 s2 m m' m0 m1 m2 : CT} {G W W' V W1 row row' r0 nm lo lg sn f : Int → Int} {wd hg mt c i j l n p v t k x xx yy N q o to : Int} {a b : Nat} {h : XH}
variable {k r u e d lw up st nv zv tv : Int} {w1 w2 w3 : Int64} {x1 x2 x3 x4 x5 : Int32} {N1 N2 D : Nat} {P Q : XR}
def restL (y : Nat) (v2 v4 : Int32) (h3 : XH) : XR := isO h3 y 9 (bV (qM_takes y v4 h3) (fun h5 => isO h5 y 9 (bI (qM_numberOf y (632645 : Int64) (1 : Int32) (10 : Int32) h5) (fun v7 h6 => isO h6 y 9 (bI (qM_numberOf y (20594195 : Int64) (2 : Int32) (20 : Int32) h6) (fun v9 h8 => pV h8 y 9 34 (.int (0 : Int32)) (fun h10 => pV h10 y 9 35 (.int (0 : Int32)) (fun h11 => gI h11 y 9 29 (fun v12 => if v12 = (0 : Int32) then (rV h11) else isO h11 y 9 (bV (qM_readPoint y h11) (fun h13 => isO h13 y 9 (bV (qM_readPoint y h13) (fun h14 => qM_readLine_89 LF y v2 v7 v9 h14)))))))))))))
theorem restL_no (h : JL s m w') {v2 : Int32} : ∃ m', restL y v2 (J 0) (hi y TM g w m) = rV (hi y TM g w m') ∧ NF s m' ∧ FMm m m' := by
  have nf := failM_n h
  obtain ⟨m', e1, e2, e3, e4⟩ := tail0_nf (y := y) (g := g) (w := w) nf.1 (F := fun v7 v9 h11 => isO h11 y 9 (bV (qM_readPoint y h11) (fun h13 => isO h13 y 9 (bV (qM_readPoint y h13) (fun h14 => qM_readLine_89 LF y v2 v7 v9 h14)))))
  refine ⟨m', ?_, NF_of nf e2 e3, FMm.trans failM_f e4⟩
  unfold restL
  rw [isO_M, takes_fail h.2, bV_r]
  exact e1
theorem readLine_go (h : JL s m w') (h33 : m 0 33 < 8 ∧ 0 ≤ m 0 33) (h7 : s 5 2 = 7) (ht : qM_takes y (J 1) (hi y TM g' w' m) = rV (hi y TM g' w1 m1)) : qM_readLine y (hi y TM g' w' m) = bI (qM_isNewName y (hi y TM g' w1 m1)) (restL y (J (m1 0 28))) := by
  have ih := isHere_ok (y := y) (g := g') (v := K (keyN 7)) h
  rw [b01_pos ((key_iff h (by omega)).mpr h7)] at ih
  have ih' : qM_isHere y (402885 : Int64) (hi y TM g' w' m) = rI (J 1) (hi y TM g' w' m) := ih
  have k8 : J (m 0 33) < (8 : Int32) := by
    rw [show (8 : Int32) = J 8 from rfl, J_lt (by omega)]
    exact h33.1
  have ht' : qM_takes y (1 : Int32) (hi y TM g' w' m) = rV (hi y TM g' w1 m1) := ht
  unfold qM_readLine qM_readLine_25
  rw [isO_M, ih', bI_r, if_neg (show ¬J 1 = (0 : Int32) by decide), gI_M33, if_pos k8, isO_M, ht', bV_r, gI_M28, isO_M]
  rfl
theorem head_both (h : JL s m w') (hd : HdS s m) (h35 : s 35 3 = l) (h33 : m 0 33 = l) (hl : 0 ≤ l ∧ l < 8) (hln : LnI s m l) (h7 : s 5 2 = 7) : (∃ s' m' w2, qPs_readHead (z + 5) (z + 1) (z + 35) (z + (40 + 3 * l.toNat)) (hi z TD g w s) = rI (J 0) (hi z TD g w s') ∧ qM_readLine y (hi y TM g' w' m) = rV (hi y TM g' w2 m') ∧ NF s' m' ∧ FC s s' ∧ FMm m m') ∨ ∃ s' m' w2 nv zv tv, qPs_readHead (z + 5) (z + 1) (z + 35) (z + (40 + 3 * l.toNat)) (hi z TD g w s) = rI (J 1) (hi z TD g w s') ∧ qM_readLine y (hi y TM g' w' m) = bV (qM_readPoint y (hi y TM g' w2 m')) (fun h13 => isO h13 y 9 (bV (qM_readPoint y h13) (fun h14 => qM_readLine_89 LF y (J nv) (J zv) (J tv) h14))) ∧ JL s' m' w2 ∧ FC s s' ∧ FMm m m' ∧ PB s' m' l 0 ∧ LnI s' m' l ∧ PtJ s' m' l 0 nv zv tv := by
  have hLn := isLn_40 hl
  obtain ⟨s0, hs0⟩ : ∃ s0, rs s (40 + 3 * l.toNat) (ru (s (40 + 3 * l.toNat)) 1 0) = s0 := ⟨_, rfl⟩
  have g0 : ∀ o, o ≠ 40 + 3 * l.toNat → s0 o = s o := fun o ho => by rw [← hs0, rs_ne ho]
  have g0a : s0 (40 + 3 * l.toNat) 1 = 0 := by rw [← hs0, rs_same, ru_same]
  have j0 : JL s0 m w' := JL_s h (fun o ho => g0 o (by omega))
  have h70 : s0 5 2 = 7 := by rw [g0 5 (by omega)]; exact h7
  obtain ⟨s1, m1, w1, f1, f2, f3, f4, f5⟩ := next_both (z := z) (y := y) (g := g) (g' := g') (w := w) j0
  have p1 := pass_yes (z := z) (g := g) (w := w) j0 (by omega) h70 f1
  have eM := readLine_go (y := y) (g' := g') h (by omega) h7 f2
  have c1 : FC s s1 := fun o ho => by rw [f4.1 o (by omega), g0 o (by omega)]
  have u33 : m1 0 33 = l := by rw [f5.2 33 (by decide) (by decide) (by decide) (by decide) (by decide)]; exact h33
  have u35 : s1 35 3 = l := by rw [f4.1 35 (by decide), g0 35 (by omega)]; exact h35
  have hln1 : LnI s1 m1 l := LnI_fr hln (fun o o1 o2 => by rw [f4.1 o (by omega), g0 o (by omega)]) (f5.1 17 (by decide)) (f5.1 16 (by decide))
  have tb := TkR_bd f3.1.2.2.2
  have nm1 := name_iff f3
  by_cases h4 : s1 5 2 = 4
  · obtain ⟨n1, n2⟩ := nm1.2 h4
    have k1 := nm1.1.mpr h4
    generalize hnv : m1 0 28 = nv at n1 eM
    rw [n1] at n2
    have n2b := n2.1
    obtain ⟨f, q1, q2⟩ := M_new1 (y := y) (g := g') (w := w1) u33 (by omega) hnv n2 (fun i i0 i1 => (hln1 i i0 i1).2.2.1)
    obtain ⟨r, r1, r2⟩ := C_named35 (z := z) (g := g) (w := w) (v := nv) (nm := m1 16) u35 (by omega) (fun i i0 i1 => ⟨(hln1 i i0 i1).2.1, (hln1 i i0 i1).2.2.1⟩) (by omega)
    have eN : qM_isNewName y (hi y TM g' w1 m1) = rI (J f) (hi y TM g' w1 m1) := by
      unfold qM_isNewName
      rw [gI_M25, k1, if_pos (show J 1 = (1 : Int32) from rfl)]
      exact q1
    rcases q2 with ⟨rfl, q2⟩ | ⟨rfl, i, i0, i1, q2⟩
    · have r3 : r = -1 := by
        rcases r2 with ⟨r3, _⟩ | ⟨r3, r4, _⟩
        · exact r3
        · exact absurd r4 (q2 r r3.1 r3.2)
      rw [r3] at r1
      obtain ⟨s2, hs2⟩ : ∃ s2, rs s1 (40 + 3 * l.toNat) (ru (s1 (40 + 3 * l.toNat)) 0 nv) = s2 := ⟨_, rfl⟩
      have g2 : ∀ o, o ≠ 40 + 3 * l.toNat → s2 o = s1 o := fun o ho => by rw [← hs2, rs_ne ho]
      have g2a : s2 (40 + 3 * l.toNat) = ru (s1 (40 + 3 * l.toNat)) 0 nv := by rw [← hs2, rs_same]
      have j2 : JL s2 m1 w1 := JL_s f3 (fun o ho => g2 o (by omega))
      obtain ⟨s3, m3, w3, a1, a2, a3, a4, a5⟩ := next_both (z := z) (y := y) (g := g) (g' := g') (w := w) j2
      have c3 : FC s s3 := FC.trans c1 (fun o ho => by rw [a4.1 o (by omega), g2 o (by omega)])
      rcases of_both (z := z) (y := y) (g := g) (g' := g') (w := w) (k := 8) (lw := 1) (up := 10) a3 (by omega) (by omega) (by omega) with ⟨m4, w4, v, s4, b1, b2, b3, b4, b5⟩ | ⟨s4, s5, m5, w5, zv, b1, b2, b3, b4, b5, b6, b7, b8⟩
      · left
        have b1' : qM_numberOf y (632645 : Int64) (1 : Int32) (10 : Int32) (hi y TM g' w3 m3) = rI (J v) (hi y TM g' w4 m4) := b1
        obtain ⟨m', e1, e2, e3, e4⟩ := tail1_nf (y := y) (g := g') (w := w4) b2.1 (F := fun v9 h11 => isO h11 y 9 (bV (qM_readPoint y h11) (fun h13 => isO h13 y 9 (bV (qM_readPoint y h13) (fun h14 => qM_readLine_89 LF y (J nv) (J v) v9 h14)))))
        refine ⟨s4, m', w4, ?_, ?_, NF_of b2 e2 e3, FC.trans c3 (fm_5 b4), FMm.trans (FMm.trans (FMm.trans f5.fm a5.fm) b3) e4⟩
        · unfold qPs_readHead
          rcases b5 with b5 | ⟨s6, b5, b6⟩
          · simp (disch := first | assumption | omega) only [↓gR_D0, ↓gR_D1, ↓gR_D2, ↓gR_D3, ↓gR_D4, ↓gR_D5, ↓gR_D6, ↓gR_D7, ↓gR_D8, ↓gR_D9, ↓gR_D10, ↓gI_D11, ↓pV_D11, ↓isO_D, ↓gI_T0, ↓pV_T0, ↓gR_T1, ↓isO_T, ↓rd_T2, ↓wr_T2, ↓gI_U0, ↓pV_U0, ↓gR_U1, ↓isO_U, ↓rd_U2, ↓wr_U2, ↓gI_Ps0, ↓pV_Ps0, ↓gI_Ps1, ↓pV_Ps1, ↓gI_Ps2, ↓pV_Ps2, ↓gI_Ps3, ↓pV_Ps3, ↓gI_Ps4, ↓pV_Ps4, ↓isO_Ps, ↓gI_N0, ↓pV_N0, ↓gI_N1, ↓pV_N1, ↓gI_N2, ↓pV_N2, ↓gI_N3, ↓pV_N3, ↓gR_N4, ↓gR_N5, ↓isO_N, ↓rd_NL, ↓gI_NB0, ↓pV_NB0, ↓gR_NB1, ↓gR_NB2, ↓isO_NB, ↓rd_NC, ↓wr_NC, ↓ln_NC, ↓rd_NP, ↓wr_NP, ↓ln_NP, ↓gI_V0, ↓pV_V0, ↓gI_V1, ↓pV_V1, ↓gI_V2, ↓pV_V2, ↓gI_V3, ↓pV_V3, ↓gR_V4, ↓gR_V5, ↓isO_V, ↓rd_VL, ↓gI_VB0, ↓pV_VB0, ↓gR_VB1, ↓gR_VB2, ↓isO_VB, ↓rd_VC, ↓wr_VC, ↓ln_VC, ↓rd_VP, ↓wr_VP, ↓ln_VP, ↓rd_SL, ↓rd_KP, ↓wr_KP, ↓gI_H0, ↓pV_H0, ↓gI_H1, ↓pV_H1, ↓gR_H2, ↓isO_H, ↓rd_HP, ↓gI_B0, ↓pV_B0, ↓gI_B1, ↓pV_B1, ↓gR_B2, ↓gR_B3, ↓gR_B4, ↓gR_B5, ↓gR_B6, ↓gR_B7, ↓gR_B8, ↓isO_B, ↓rd_B301, ↓wr_B301, ↓ln_B301, ↓rd_B302, ↓wr_B302, ↓ln_B302, ↓rd_B303, ↓wr_B303, ↓ln_B303, ↓rd_B304, ↓wr_B304, ↓ln_B304, ↓rd_B305, ↓wr_B305, ↓ln_B305, ↓rd_B306, ↓wr_B306, ↓ln_B306, ↓rd_B307, ↓wr_B307, ↓ln_B307, ↓gR_Tv, ↓isO_Tv, ↓rd_Tv9, ↓wr_Tv9, ↓ln_Tv9, pV_D11, pV_T0, rd_T2, wr_T2, pV_U0, rd_U2, wr_U2, pV_Ps0, pV_Ps1, pV_Ps2, pV_Ps3, pV_Ps4, pV_N0, pV_N1, pV_N2, pV_N3, rd_NL, pV_NB0, rd_NC, wr_NC, rd_NP, wr_NP, pV_V0, pV_V1, pV_V2, pV_V3, rd_VL, pV_VB0, rd_VC, wr_VC, rd_VP, wr_VP, rd_SL, rd_KP, wr_KP, pV_H0, pV_H1, rd_HP, pV_B0, pV_B1, rd_B301, wr_B301, rd_B302, wr_B302, rd_B303, wr_B303, rd_B304, wr_B304, rd_B305, wr_B305, rd_B306, wr_B306, rd_B307, wr_B307, rd_Tv9, wr_Tv9, ↓isO_L, ↓gI_L0, ↓pV_L0, ↓gI_L1, ↓pV_L1, ↓gI_L2, ↓pV_L2, ↓gI_L3, ↓pV_L3, ↓gR_L4, ↓rd_L4, ↓wr_L4, ↓gR_L5, ↓rd_L5, ↓wr_L5, pV_L0, pV_L1, pV_L2, pV_L3, rd_L4, wr_L4, rd_L5, wr_L5, J_l, J_neg, J_add, J_sub, J_mul, J_lt, J_le, J_eq, J_div2, J_rem2, J_shl1, J_orp, J_or, J_and, J_shr, J_ushr, J_max, J_min, J_abs, J_b0, ↓b0_ite, ↓b0_ite2, b0_ite, bI_r, bV_r, b01_ite, ite_true, ite_false, rZ_b, K_l, J_long, M_in, I10, hs0, p1, h4, eq_self, n1, r1, hs2, a1, b5]
            rw [if_pos (show (-1 : Int) < 0 by omega)]
          · simp (disch := first | assumption | omega) only [↓gR_D0, ↓gR_D1, ↓gR_D2, ↓gR_D3, ↓gR_D4, ↓gR_D5, ↓gR_D6, ↓gR_D7, ↓gR_D8, ↓gR_D9, ↓gR_D10, ↓gI_D11, ↓pV_D11, ↓isO_D, ↓gI_T0, ↓pV_T0, ↓gR_T1, ↓isO_T, ↓rd_T2, ↓wr_T2, ↓gI_U0, ↓pV_U0, ↓gR_U1, ↓isO_U, ↓rd_U2, ↓wr_U2, ↓gI_Ps0, ↓pV_Ps0, ↓gI_Ps1, ↓pV_Ps1, ↓gI_Ps2, ↓pV_Ps2, ↓gI_Ps3, ↓pV_Ps3, ↓gI_Ps4, ↓pV_Ps4, ↓isO_Ps, ↓gI_N0, ↓pV_N0, ↓gI_N1, ↓pV_N1, ↓gI_N2, ↓pV_N2, ↓gI_N3, ↓pV_N3, ↓gR_N4, ↓gR_N5, ↓isO_N, ↓rd_NL, ↓gI_NB0, ↓pV_NB0, ↓gR_NB1, ↓gR_NB2, ↓isO_NB, ↓rd_NC, ↓wr_NC, ↓ln_NC, ↓rd_NP, ↓wr_NP, ↓ln_NP, ↓gI_V0, ↓pV_V0, ↓gI_V1, ↓pV_V1, ↓gI_V2, ↓pV_V2, ↓gI_V3, ↓pV_V3, ↓gR_V4, ↓gR_V5, ↓isO_V, ↓rd_VL, ↓gI_VB0, ↓pV_VB0, ↓gR_VB1, ↓gR_VB2, ↓isO_VB, ↓rd_VC, ↓wr_VC, ↓ln_VC, ↓rd_VP, ↓wr_VP, ↓ln_VP, ↓rd_SL, ↓rd_KP, ↓wr_KP, ↓gI_H0, ↓pV_H0, ↓gI_H1, ↓pV_H1, ↓gR_H2, ↓isO_H, ↓rd_HP, ↓gI_B0, ↓pV_B0, ↓gI_B1, ↓pV_B1, ↓gR_B2, ↓gR_B3, ↓gR_B4, ↓gR_B5, ↓gR_B6, ↓gR_B7, ↓gR_B8, ↓isO_B, ↓rd_B301, ↓wr_B301, ↓ln_B301, ↓rd_B302, ↓wr_B302, ↓ln_B302, ↓rd_B303, ↓wr_B303, ↓ln_B303, ↓rd_B304, ↓wr_B304, ↓ln_B304, ↓rd_B305, ↓wr_B305, ↓ln_B305, ↓rd_B306, ↓wr_B306, ↓ln_B306, ↓rd_B307, ↓wr_B307, ↓ln_B307, ↓gR_Tv, ↓isO_Tv, ↓rd_Tv9, ↓wr_Tv9, ↓ln_Tv9, pV_D11, pV_T0, rd_T2, wr_T2, pV_U0, rd_U2, wr_U2, pV_Ps0, pV_Ps1, pV_Ps2, pV_Ps3, pV_Ps4, pV_N0, pV_N1, pV_N2, pV_N3, rd_NL, pV_NB0, rd_NC, wr_NC, rd_NP, wr_NP, pV_V0, pV_V1, pV_V2, pV_V3, rd_VL, pV_VB0, rd_VC, wr_VC, rd_VP, wr_VP, rd_SL, rd_KP, wr_KP, pV_H0, pV_H1, rd_HP, pV_B0, pV_B1, rd_B301, wr_B301, rd_B302, wr_B302, rd_B303, wr_B303, rd_B304, wr_B304, rd_B305, wr_B305, rd_B306, wr_B306, rd_B307, wr_B307, rd_Tv9, wr_Tv9, ↓isO_L, ↓gI_L0, ↓pV_L0, ↓gI_L1, ↓pV_L1, ↓gI_L2, ↓pV_L2, ↓gI_L3, ↓pV_L3, ↓gR_L4, ↓rd_L4, ↓wr_L4, ↓gR_L5, ↓rd_L5, ↓wr_L5, pV_L0, pV_L1, pV_L2, pV_L3, rd_L4, wr_L4, rd_L5, wr_L5, J_l, J_neg, J_add, J_sub, J_mul, J_lt, J_le, J_eq, J_div2, J_rem2, J_shl1, J_orp, J_or, J_and, J_shr, J_ushr, J_max, J_min, J_abs, J_b0, ↓b0_ite, ↓b0_ite2, b0_ite, bI_r, bV_r, b01_ite, ite_true, ite_false, rZ_b, K_l, J_long, M_in, I10, hs0, p1, h4, eq_self, n1, r1, hs2, a1, b5, b6]
            rw [if_pos (show (-1 : Int) < 0 by omega)]
        · rw [eM, eN, bI_r]
          unfold restL
          rw [isO_M, a2, bV_r, isO_M, b1', bI_r]
          exact e1
      have b1' : qM_numberOf y (632645 : Int64) (1 : Int32) (10 : Int32) (hi y TM g' w3 m3) = rI (J zv) (hi y TM g' w5 m5) := b1
      obtain ⟨s6, hs6⟩ : ∃ s6, rs s5 (40 + 3 * l.toNat) (ru (s5 (40 + 3 * l.toNat)) 3 zv) = s6 := ⟨_, rfl⟩
      have g6 : ∀ o, o ≠ 40 + 3 * l.toNat → s6 o = s5 o := fun o ho => by rw [← hs6, rs_ne ho]
      have g6a : s6 (40 + 3 * l.toNat) = ru (s5 (40 + 3 * l.toNat)) 3 zv := by rw [← hs6, rs_same]
      have j6 : JL s6 m5 w5 := JL_s b4 (fun o ho => g6 o (by omega))
      have c6 : FC s s6 := FC.trans c3 (fun o ho => by rw [g6 o (by omega), b5 o (by omega)])
      have fm5 : FMm m m5 := FMm.trans (FMm.trans f5.fm a5.fm) b8.fm
      rcases of_both (z := z) (y := y) (g := g) (g' := g') (w := w) (k := 9) (lw := 2) (up := 20) j6 (by omega) (by omega) (by omega) with ⟨m7, w7, v, s7, d1, d2, d3, d4, d5⟩ | ⟨s7, s8, m8, w8, tv, d1, d2, d3, d4, d5, d6, d7, d8⟩
      · left
        have d1' : qM_numberOf y (20594195 : Int64) (2 : Int32) (20 : Int32) (hi y TM g' w5 m5) = rI (J v) (hi y TM g' w7 m7) := d1
        obtain ⟨m', e1, e2, e3, e4⟩ := tail2_nf (y := y) (g := g') (w := w7) d2.1 (F := fun h11 => isO h11 y 9 (bV (qM_readPoint y h11) (fun h13 => isO h13 y 9 (bV (qM_readPoint y h13) (fun h14 => qM_readLine_89 LF y (J nv) (J zv) (J v) h14)))))
        refine ⟨s7, m', w7, ?_, ?_, NF_of d2 e2 e3, FC.trans c6 (fm_5 d4), FMm.trans (FMm.trans fm5 d3) e4⟩
        · unfold qPs_readHead
          rcases d5 with d5 | ⟨s9, d5, d6⟩
          · simp (disch := first | assumption | omega) only [↓gR_D0, ↓gR_D1, ↓gR_D2, ↓gR_D3, ↓gR_D4, ↓gR_D5, ↓gR_D6, ↓gR_D7, ↓gR_D8, ↓gR_D9, ↓gR_D10, ↓gI_D11, ↓pV_D11, ↓isO_D, ↓gI_T0, ↓pV_T0, ↓gR_T1, ↓isO_T, ↓rd_T2, ↓wr_T2, ↓gI_U0, ↓pV_U0, ↓gR_U1, ↓isO_U, ↓rd_U2, ↓wr_U2, ↓gI_Ps0, ↓pV_Ps0, ↓gI_Ps1, ↓pV_Ps1, ↓gI_Ps2, ↓pV_Ps2, ↓gI_Ps3, ↓pV_Ps3, ↓gI_Ps4, ↓pV_Ps4, ↓isO_Ps, ↓gI_N0, ↓pV_N0, ↓gI_N1, ↓pV_N1, ↓gI_N2, ↓pV_N2, ↓gI_N3, ↓pV_N3, ↓gR_N4, ↓gR_N5, ↓isO_N, ↓rd_NL, ↓gI_NB0, ↓pV_NB0, ↓gR_NB1, ↓gR_NB2, ↓isO_NB, ↓rd_NC, ↓wr_NC, ↓ln_NC, ↓rd_NP, ↓wr_NP, ↓ln_NP, ↓gI_V0, ↓pV_V0, ↓gI_V1, ↓pV_V1, ↓gI_V2, ↓pV_V2, ↓gI_V3, ↓pV_V3, ↓gR_V4, ↓gR_V5, ↓isO_V, ↓rd_VL, ↓gI_VB0, ↓pV_VB0, ↓gR_VB1, ↓gR_VB2, ↓isO_VB, ↓rd_VC, ↓wr_VC, ↓ln_VC, ↓rd_VP, ↓wr_VP, ↓ln_VP, ↓rd_SL, ↓rd_KP, ↓wr_KP, ↓gI_H0, ↓pV_H0, ↓gI_H1, ↓pV_H1, ↓gR_H2, ↓isO_H, ↓rd_HP, ↓gI_B0, ↓pV_B0, ↓gI_B1, ↓pV_B1, ↓gR_B2, ↓gR_B3, ↓gR_B4, ↓gR_B5, ↓gR_B6, ↓gR_B7, ↓gR_B8, ↓isO_B, ↓rd_B301, ↓wr_B301, ↓ln_B301, ↓rd_B302, ↓wr_B302, ↓ln_B302, ↓rd_B303, ↓wr_B303, ↓ln_B303, ↓rd_B304, ↓wr_B304, ↓ln_B304, ↓rd_B305, ↓wr_B305, ↓ln_B305, ↓rd_B306, ↓wr_B306, ↓ln_B306, ↓rd_B307, ↓wr_B307, ↓ln_B307, ↓gR_Tv, ↓isO_Tv, ↓rd_Tv9, ↓wr_Tv9, ↓ln_Tv9, pV_D11, pV_T0, rd_T2, wr_T2, pV_U0, rd_U2, wr_U2, pV_Ps0, pV_Ps1, pV_Ps2, pV_Ps3, pV_Ps4, pV_N0, pV_N1, pV_N2, pV_N3, rd_NL, pV_NB0, rd_NC, wr_NC, rd_NP, wr_NP, pV_V0, pV_V1, pV_V2, pV_V3, rd_VL, pV_VB0, rd_VC, wr_VC, rd_VP, wr_VP, rd_SL, rd_KP, wr_KP, pV_H0, pV_H1, rd_HP, pV_B0, pV_B1, rd_B301, wr_B301, rd_B302, wr_B302, rd_B303, wr_B303, rd_B304, wr_B304, rd_B305, wr_B305, rd_B306, wr_B306, rd_B307, wr_B307, rd_Tv9, wr_Tv9, ↓isO_L, ↓gI_L0, ↓pV_L0, ↓gI_L1, ↓pV_L1, ↓gI_L2, ↓pV_L2, ↓gI_L3, ↓pV_L3, ↓gR_L4, ↓rd_L4, ↓wr_L4, ↓gR_L5, ↓rd_L5, ↓wr_L5, pV_L0, pV_L1, pV_L2, pV_L3, rd_L4, wr_L4, rd_L5, wr_L5, J_l, J_neg, J_add, J_sub, J_mul, J_lt, J_le, J_eq, J_div2, J_rem2, J_shl1, J_orp, J_or, J_and, J_shr, J_ushr, J_max, J_min, J_abs, J_b0, ↓b0_ite, ↓b0_ite2, b0_ite, bI_r, bV_r, b01_ite, ite_true, ite_false, rZ_b, K_l, J_long, M_in, I10, hs0, p1, h4, eq_self, n1, r1, hs2, a1, b2, b3, b6, hs6, d5]
            rw [if_pos (show (-1 : Int) < 0 by omega)]
          · simp (disch := first | assumption | omega) only [↓gR_D0, ↓gR_D1, ↓gR_D2, ↓gR_D3, ↓gR_D4, ↓gR_D5, ↓gR_D6, ↓gR_D7, ↓gR_D8, ↓gR_D9, ↓gR_D10, ↓gI_D11, ↓pV_D11, ↓isO_D, ↓gI_T0, ↓pV_T0, ↓gR_T1, ↓isO_T, ↓rd_T2, ↓wr_T2, ↓gI_U0, ↓pV_U0, ↓gR_U1, ↓isO_U, ↓rd_U2, ↓wr_U2, ↓gI_Ps0, ↓pV_Ps0, ↓gI_Ps1, ↓pV_Ps1, ↓gI_Ps2, ↓pV_Ps2, ↓gI_Ps3, ↓pV_Ps3, ↓gI_Ps4, ↓pV_Ps4, ↓isO_Ps, ↓gI_N0, ↓pV_N0, ↓gI_N1, ↓pV_N1, ↓gI_N2, ↓pV_N2, ↓gI_N3, ↓pV_N3, ↓gR_N4, ↓gR_N5, ↓isO_N, ↓rd_NL, ↓gI_NB0, ↓pV_NB0, ↓gR_NB1, ↓gR_NB2, ↓isO_NB, ↓rd_NC, ↓wr_NC, ↓ln_NC, ↓rd_NP, ↓wr_NP, ↓ln_NP, ↓gI_V0, ↓pV_V0, ↓gI_V1, ↓pV_V1, ↓gI_V2, ↓pV_V2, ↓gI_V3, ↓pV_V3, ↓gR_V4, ↓gR_V5, ↓isO_V, ↓rd_VL, ↓gI_VB0, ↓pV_VB0, ↓gR_VB1, ↓gR_VB2, ↓isO_VB, ↓rd_VC, ↓wr_VC, ↓ln_VC, ↓rd_VP, ↓wr_VP, ↓ln_VP, ↓rd_SL, ↓rd_KP, ↓wr_KP, ↓gI_H0, ↓pV_H0, ↓gI_H1, ↓pV_H1, ↓gR_H2, ↓isO_H, ↓rd_HP, ↓gI_B0, ↓pV_B0, ↓gI_B1, ↓pV_B1, ↓gR_B2, ↓gR_B3, ↓gR_B4, ↓gR_B5, ↓gR_B6, ↓gR_B7, ↓gR_B8, ↓isO_B, ↓rd_B301, ↓wr_B301, ↓ln_B301, ↓rd_B302, ↓wr_B302, ↓ln_B302, ↓rd_B303, ↓wr_B303, ↓ln_B303, ↓rd_B304, ↓wr_B304, ↓ln_B304, ↓rd_B305, ↓wr_B305, ↓ln_B305, ↓rd_B306, ↓wr_B306, ↓ln_B306, ↓rd_B307, ↓wr_B307, ↓ln_B307, ↓gR_Tv, ↓isO_Tv, ↓rd_Tv9, ↓wr_Tv9, ↓ln_Tv9, pV_D11, pV_T0, rd_T2, wr_T2, pV_U0, rd_U2, wr_U2, pV_Ps0, pV_Ps1, pV_Ps2, pV_Ps3, pV_Ps4, pV_N0, pV_N1, pV_N2, pV_N3, rd_NL, pV_NB0, rd_NC, wr_NC, rd_NP, wr_NP, pV_V0, pV_V1, pV_V2, pV_V3, rd_VL, pV_VB0, rd_VC, wr_VC, rd_VP, wr_VP, rd_SL, rd_KP, wr_KP, pV_H0, pV_H1, rd_HP, pV_B0, pV_B1, rd_B301, wr_B301, rd_B302, wr_B302, rd_B303, wr_B303, rd_B304, wr_B304, rd_B305, wr_B305, rd_B306, wr_B306, rd_B307, wr_B307, rd_Tv9, wr_Tv9, ↓isO_L, ↓gI_L0, ↓pV_L0, ↓gI_L1, ↓pV_L1, ↓gI_L2, ↓pV_L2, ↓gI_L3, ↓pV_L3, ↓gR_L4, ↓rd_L4, ↓wr_L4, ↓gR_L5, ↓rd_L5, ↓wr_L5, pV_L0, pV_L1, pV_L2, pV_L3, rd_L4, wr_L4, rd_L5, wr_L5, J_l, J_neg, J_add, J_sub, J_mul, J_lt, J_le, J_eq, J_div2, J_rem2, J_shl1, J_orp, J_or, J_and, J_shr, J_ushr, J_max, J_min, J_abs, J_b0, ↓b0_ite, ↓b0_ite2, b0_ite, bI_r, bV_r, b01_ite, ite_true, ite_false, rZ_b, K_l, J_long, M_in, I10, hs0, p1, h4, eq_self, n1, r1, hs2, a1, b2, b3, b6, hs6, d5, d6]
            rw [if_pos (show (-1 : Int) < 0 by omega)]
        · rw [eM, eN, bI_r]
          unfold restL
          rw [isO_M, a2, bV_r, isO_M, b1', bI_r, isO_M, d1', bI_r]
          exact e1
      · right
        have d1' : qM_numberOf y (20594195 : Int64) (2 : Int32) (20 : Int32) (hi y TM g' w5 m5) = rI (J tv) (hi y TM g' w8 m8) := d1
        obtain ⟨s9, hs9⟩ : ∃ s9, rs s8 (40 + 3 * l.toNat) (ru (s8 (40 + 3 * l.toNat)) 2 tv) = s9 := ⟨_, rfl⟩
        have g9 : ∀ o, o ≠ 40 + 3 * l.toNat → s9 o = s8 o := fun o ho => by rw [← hs9, rs_ne ho]
        have g9a : s9 (40 + 3 * l.toNat) = ru (s8 (40 + 3 * l.toNat)) 2 tv := by rw [← hs9, rs_same]
        have c9 : FC s s9 := FC.trans c6 (fun o ho => by rw [g9 o (by omega), d5 o (by omega)])
        obtain ⟨m9, hm9⟩ : ∃ m9, rs (rs m8 0 (ru (m8 0) 34 0)) 0 (ru (rs m8 0 (ru (m8 0) 34 0) 0) 35 0) = m9 := ⟨_, rfl⟩
        have j9 : JL s9 m9 w8 := by
          rw [← hm9]
          exact JL_w (JL_w (JL_s d4 (fun o ho => g9 o (by omega))) (by omega)) (by omega)
        have fm9 : FMm m8 m9 := by rw [← hm9]; exact FMm.trans (FMm_w (by omega)) (FMm_w (by omega))
        have fA : ∀ j, j ≠ 34 → j ≠ 35 → m9 0 j = m8 0 j := fun j j1 j2 => by rw [← hm9, rs_same, ru_ne j2, rs_same, ru_ne j1]
        have fO : ∀ o, o ≠ 0 → m9 o = m8 o := fun o ho => by rw [← hm9, rs_ne ho, rs_ne ho]
        have FMall : FM m m8 := FM.trans (FM.trans (FM.trans f5 a5) b8) d8
        have eS : ∀ o, o ≠ 5 → o ≠ 40 + 3 * l.toNat → s9 o = s o := fun o o1 o2 => by
          rw [g9 o o2, d5 o o1, g6 o o2, b5 o o1, a4.1 o o1, g2 o o2, f4.1 o o1, g0 o o2]
        have x29 := j9.2
        refine ⟨s9, m9, w8, nv, zv, tv, ?_, ?_, j9, c9, FMm.trans FMall.fm fm9, ⟨?_, ?_, ?_, hl, by omega, by omega⟩, ?_, ⟨⟨?_, ?_, ?_, ?_⟩, fun p p0 p1 => by omega, fun r r0 r1 => by omega, ⟨?_, ?_⟩, b7, d7, n2⟩⟩
        · unfold qPs_readHead
          simp (disch := first | assumption | omega) only [↓gR_D0, ↓gR_D1, ↓gR_D2, ↓gR_D3, ↓gR_D4, ↓gR_D5, ↓gR_D6, ↓gR_D7, ↓gR_D8, ↓gR_D9, ↓gR_D10, ↓gI_D11, ↓pV_D11, ↓isO_D, ↓gI_T0, ↓pV_T0, ↓gR_T1, ↓isO_T, ↓rd_T2, ↓wr_T2, ↓gI_U0, ↓pV_U0, ↓gR_U1, ↓isO_U, ↓rd_U2, ↓wr_U2, ↓gI_Ps0, ↓pV_Ps0, ↓gI_Ps1, ↓pV_Ps1, ↓gI_Ps2, ↓pV_Ps2, ↓gI_Ps3, ↓pV_Ps3, ↓gI_Ps4, ↓pV_Ps4, ↓isO_Ps, ↓gI_N0, ↓pV_N0, ↓gI_N1, ↓pV_N1, ↓gI_N2, ↓pV_N2, ↓gI_N3, ↓pV_N3, ↓gR_N4, ↓gR_N5, ↓isO_N, ↓rd_NL, ↓gI_NB0, ↓pV_NB0, ↓gR_NB1, ↓gR_NB2, ↓isO_NB, ↓rd_NC, ↓wr_NC, ↓ln_NC, ↓rd_NP, ↓wr_NP, ↓ln_NP, ↓gI_V0, ↓pV_V0, ↓gI_V1, ↓pV_V1, ↓gI_V2, ↓pV_V2, ↓gI_V3, ↓pV_V3, ↓gR_V4, ↓gR_V5, ↓isO_V, ↓rd_VL, ↓gI_VB0, ↓pV_VB0, ↓gR_VB1, ↓gR_VB2, ↓isO_VB, ↓rd_VC, ↓wr_VC, ↓ln_VC, ↓rd_VP, ↓wr_VP, ↓ln_VP, ↓rd_SL, ↓rd_KP, ↓wr_KP, ↓gI_H0, ↓pV_H0, ↓gI_H1, ↓pV_H1, ↓gR_H2, ↓isO_H, ↓rd_HP, ↓gI_B0, ↓pV_B0, ↓gI_B1, ↓pV_B1, ↓gR_B2, ↓gR_B3, ↓gR_B4, ↓gR_B5, ↓gR_B6, ↓gR_B7, ↓gR_B8, ↓isO_B, ↓rd_B301, ↓wr_B301, ↓ln_B301, ↓rd_B302, ↓wr_B302, ↓ln_B302, ↓rd_B303, ↓wr_B303, ↓ln_B303, ↓rd_B304, ↓wr_B304, ↓ln_B304, ↓rd_B305, ↓wr_B305, ↓ln_B305, ↓rd_B306, ↓wr_B306, ↓ln_B306, ↓rd_B307, ↓wr_B307, ↓ln_B307, ↓gR_Tv, ↓isO_Tv, ↓rd_Tv9, ↓wr_Tv9, ↓ln_Tv9, pV_D11, pV_T0, rd_T2, wr_T2, pV_U0, rd_U2, wr_U2, pV_Ps0, pV_Ps1, pV_Ps2, pV_Ps3, pV_Ps4, pV_N0, pV_N1, pV_N2, pV_N3, rd_NL, pV_NB0, rd_NC, wr_NC, rd_NP, wr_NP, pV_V0, pV_V1, pV_V2, pV_V3, rd_VL, pV_VB0, rd_VC, wr_VC, rd_VP, wr_VP, rd_SL, rd_KP, wr_KP, pV_H0, pV_H1, rd_HP, pV_B0, pV_B1, rd_B301, wr_B301, rd_B302, wr_B302, rd_B303, wr_B303, rd_B304, wr_B304, rd_B305, wr_B305, rd_B306, wr_B306, rd_B307, wr_B307, rd_Tv9, wr_Tv9, ↓isO_L, ↓gI_L0, ↓pV_L0, ↓gI_L1, ↓pV_L1, ↓gI_L2, ↓pV_L2, ↓gI_L3, ↓pV_L3, ↓gR_L4, ↓rd_L4, ↓wr_L4, ↓gR_L5, ↓rd_L5, ↓wr_L5, pV_L0, pV_L1, pV_L2, pV_L3, rd_L4, wr_L4, rd_L5, wr_L5, J_l, J_neg, J_add, J_sub, J_mul, J_lt, J_le, J_eq, J_div2, J_rem2, J_shl1, J_orp, J_or, J_and, J_shr, J_ushr, J_max, J_min, J_abs, J_b0, ↓b0_ite, ↓b0_ite2, b0_ite, bI_r, bV_r, b01_ite, ite_true, ite_false, rZ_b, K_l, J_long, M_in, I10, hs0, p1, h4, eq_self, n1, r1, hs2, a1, b2, b3, b6, hs6, d2, d3, d6, hs9]
          rw [if_pos (show (-1 : Int) < 0 by omega)]
        · rw [eM, eN, bI_r]
          unfold restL
          rw [isO_M, a2, bV_r, isO_M, b1', bI_r, isO_M, d1', bI_r, show (0 : Int32) = J 0 from rfl, pV_M34, pV_M35, hm9, gI_M29, x29, if_neg (show ¬J 1 = J 0 by decide), isO_M]
        · unfold HdS at *
          rw [eS 35 (by omega) (by omega), eS 37 (by omega) (by omega), fA 30 (by decide) (by decide), fA 31 (by decide) (by decide), fA 32 (by decide) (by decide), FMall.2 30 (by decide) (by decide) (by decide) (by decide) (by decide), FMall.2 31 (by decide) (by decide) (by decide) (by decide) (by decide), FMall.2 32 (by decide) (by decide) (by decide) (by decide) (by decide)]
          exact hd
        · rw [eS 35 (by omega) (by omega)]; exact h35
        · rw [fA 33 (by decide) (by decide), FMall.2 33 (by decide) (by decide) (by decide) (by decide) (by decide)]; exact h33
        · exact LnI_fr hln (fun o o1 o2 => eS o (by omega) (by omega)) (by rw [fO 17 (by decide), FMall.1 17 (by decide)]) (by rw [fO 16 (by decide), FMall.1 16 (by decide)])
        · rw [g9a, ru_ne (by decide), d5 _ (by omega), g6a, ru_ne (by decide), b5 _ (by omega), a4.1 _ (by omega), g2a, ru_same]
        · rw [g9a, ru_ne (by decide), d5 _ (by omega), g6a, ru_ne (by decide), b5 _ (by omega), a4.1 _ (by omega), g2a, ru_ne (by decide), f4.1 _ (by omega)]
          exact g0a
        · rw [g9a, ru_same]
        · rw [g9a, ru_ne (by decide), d5 _ (by omega), g6a, ru_same]
        · rw [← hm9, rs_same, ru_ne (by decide), rs_same, ru_same]
        · rw [← hm9, rs_same, ru_same]
          unfold pr
          rw [sm_neg (by omega)]
    · left
      have r3 : 0 ≤ r ∧ r < l := by
        rcases r2 with ⟨_, r4⟩ | ⟨r3, _⟩
        · exact absurd q2 (r4 i i0 i1)
        · exact r3
      obtain ⟨m', e1, e2, e3⟩ := restL_no (y := y) (g := g') (w := w1) f3 (v2 := J nv)
      refine ⟨s1, m', w1, ?_, ?_, e2, c1, FMm.trans f5.fm e3⟩
      · unfold qPs_readHead
        simp (disch := first | assumption | omega) only [↓gR_D0, ↓gR_D1, ↓gR_D2, ↓gR_D3, ↓gR_D4, ↓gR_D5, ↓gR_D6, ↓gR_D7, ↓gR_D8, ↓gR_D9, ↓gR_D10, ↓gI_D11, ↓pV_D11, ↓isO_D, ↓gI_T0, ↓pV_T0, ↓gR_T1, ↓isO_T, ↓rd_T2, ↓wr_T2, ↓gI_U0, ↓pV_U0, ↓gR_U1, ↓isO_U, ↓rd_U2, ↓wr_U2, ↓gI_Ps0, ↓pV_Ps0, ↓gI_Ps1, ↓pV_Ps1, ↓gI_Ps2, ↓pV_Ps2, ↓gI_Ps3, ↓pV_Ps3, ↓gI_Ps4, ↓pV_Ps4, ↓isO_Ps, ↓gI_N0, ↓pV_N0, ↓gI_N1, ↓pV_N1, ↓gI_N2, ↓pV_N2, ↓gI_N3, ↓pV_N3, ↓gR_N4, ↓gR_N5, ↓isO_N, ↓rd_NL, ↓gI_NB0, ↓pV_NB0, ↓gR_NB1, ↓gR_NB2, ↓isO_NB, ↓rd_NC, ↓wr_NC, ↓ln_NC, ↓rd_NP, ↓wr_NP, ↓ln_NP, ↓gI_V0, ↓pV_V0, ↓gI_V1, ↓pV_V1, ↓gI_V2, ↓pV_V2, ↓gI_V3, ↓pV_V3, ↓gR_V4, ↓gR_V5, ↓isO_V, ↓rd_VL, ↓gI_VB0, ↓pV_VB0, ↓gR_VB1, ↓gR_VB2, ↓isO_VB, ↓rd_VC, ↓wr_VC, ↓ln_VC, ↓rd_VP, ↓wr_VP, ↓ln_VP, ↓rd_SL, ↓rd_KP, ↓wr_KP, ↓gI_H0, ↓pV_H0, ↓gI_H1, ↓pV_H1, ↓gR_H2, ↓isO_H, ↓rd_HP, ↓gI_B0, ↓pV_B0, ↓gI_B1, ↓pV_B1, ↓gR_B2, ↓gR_B3, ↓gR_B4, ↓gR_B5, ↓gR_B6, ↓gR_B7, ↓gR_B8, ↓isO_B, ↓rd_B301, ↓wr_B301, ↓ln_B301, ↓rd_B302, ↓wr_B302, ↓ln_B302, ↓rd_B303, ↓wr_B303, ↓ln_B303, ↓rd_B304, ↓wr_B304, ↓ln_B304, ↓rd_B305, ↓wr_B305, ↓ln_B305, ↓rd_B306, ↓wr_B306, ↓ln_B306, ↓rd_B307, ↓wr_B307, ↓ln_B307, ↓gR_Tv, ↓isO_Tv, ↓rd_Tv9, ↓wr_Tv9, ↓ln_Tv9, pV_D11, pV_T0, rd_T2, wr_T2, pV_U0, rd_U2, wr_U2, pV_Ps0, pV_Ps1, pV_Ps2, pV_Ps3, pV_Ps4, pV_N0, pV_N1, pV_N2, pV_N3, rd_NL, pV_NB0, rd_NC, wr_NC, rd_NP, wr_NP, pV_V0, pV_V1, pV_V2, pV_V3, rd_VL, pV_VB0, rd_VC, wr_VC, rd_VP, wr_VP, rd_SL, rd_KP, wr_KP, pV_H0, pV_H1, rd_HP, pV_B0, pV_B1, rd_B301, wr_B301, rd_B302, wr_B302, rd_B303, wr_B303, rd_B304, wr_B304, rd_B305, wr_B305, rd_B306, wr_B306, rd_B307, wr_B307, rd_Tv9, wr_Tv9, ↓isO_L, ↓gI_L0, ↓pV_L0, ↓gI_L1, ↓pV_L1, ↓gI_L2, ↓pV_L2, ↓gI_L3, ↓pV_L3, ↓gR_L4, ↓rd_L4, ↓wr_L4, ↓gR_L5, ↓rd_L5, ↓wr_L5, pV_L0, pV_L1, pV_L2, pV_L3, rd_L4, wr_L4, rd_L5, wr_L5, J_l, J_neg, J_add, J_sub, J_mul, J_lt, J_le, J_eq, J_div2, J_rem2, J_shl1, J_orp, J_or, J_and, J_shr, J_ushr, J_max, J_min, J_abs, J_b0, ↓b0_ite, ↓b0_ite2, b0_ite, bI_r, bV_r, b01_ite, ite_true, ite_false, rZ_b, K_l, J_long, M_in, I10, hs0, p1, h4, eq_self, n1, r1]
        rw [if_neg (show ¬r < 0 by omega)]
      · rw [eM, eN, bI_r]
        exact e1
  · left
    obtain ⟨m', e1, e2, e3⟩ := restL_no (y := y) (g := g') (w := w1) f3 (v2 := J (m1 0 28))
    have k1 : ¬J (m1 0 25) = (1 : Int32) := fun q => h4 (nm1.1.mp (by
      rw [show (1 : Int32) = J 1 from rfl, J_eq (by omega)] at q
      exact q))
    have eN : qM_isNewName y (hi y TM g' w1 m1) = rI (J 0) (hi y TM g' w1 m1) := by
      unfold qM_isNewName
      rw [gI_M25, if_neg k1]
      exact M_new0 u33 (by omega)
    refine ⟨s1, m', w1, ?_, ?_, e2, c1, FMm.trans f5.fm e3⟩
    · unfold qPs_readHead
      simp (disch := first | assumption | omega) only [↓gR_D0, ↓gR_D1, ↓gR_D2, ↓gR_D3, ↓gR_D4, ↓gR_D5, ↓gR_D6, ↓gR_D7, ↓gR_D8, ↓gR_D9, ↓gR_D10, ↓gI_D11, ↓pV_D11, ↓isO_D, ↓gI_T0, ↓pV_T0, ↓gR_T1, ↓isO_T, ↓rd_T2, ↓wr_T2, ↓gI_U0, ↓pV_U0, ↓gR_U1, ↓isO_U, ↓rd_U2, ↓wr_U2, ↓gI_Ps0, ↓pV_Ps0, ↓gI_Ps1, ↓pV_Ps1, ↓gI_Ps2, ↓pV_Ps2, ↓gI_Ps3, ↓pV_Ps3, ↓gI_Ps4, ↓pV_Ps4, ↓isO_Ps, ↓gI_N0, ↓pV_N0, ↓gI_N1, ↓pV_N1, ↓gI_N2, ↓pV_N2, ↓gI_N3, ↓pV_N3, ↓gR_N4, ↓gR_N5, ↓isO_N, ↓rd_NL, ↓gI_NB0, ↓pV_NB0, ↓gR_NB1, ↓gR_NB2, ↓isO_NB, ↓rd_NC, ↓wr_NC, ↓ln_NC, ↓rd_NP, ↓wr_NP, ↓ln_NP, ↓gI_V0, ↓pV_V0, ↓gI_V1, ↓pV_V1, ↓gI_V2, ↓pV_V2, ↓gI_V3, ↓pV_V3, ↓gR_V4, ↓gR_V5, ↓isO_V, ↓rd_VL, ↓gI_VB0, ↓pV_VB0, ↓gR_VB1, ↓gR_VB2, ↓isO_VB, ↓rd_VC, ↓wr_VC, ↓ln_VC, ↓rd_VP, ↓wr_VP, ↓ln_VP, ↓rd_SL, ↓rd_KP, ↓wr_KP, ↓gI_H0, ↓pV_H0, ↓gI_H1, ↓pV_H1, ↓gR_H2, ↓isO_H, ↓rd_HP, ↓gI_B0, ↓pV_B0, ↓gI_B1, ↓pV_B1, ↓gR_B2, ↓gR_B3, ↓gR_B4, ↓gR_B5, ↓gR_B6, ↓gR_B7, ↓gR_B8, ↓isO_B, ↓rd_B301, ↓wr_B301, ↓ln_B301, ↓rd_B302, ↓wr_B302, ↓ln_B302, ↓rd_B303, ↓wr_B303, ↓ln_B303, ↓rd_B304, ↓wr_B304, ↓ln_B304, ↓rd_B305, ↓wr_B305, ↓ln_B305, ↓rd_B306, ↓wr_B306, ↓ln_B306, ↓rd_B307, ↓wr_B307, ↓ln_B307, ↓gR_Tv, ↓isO_Tv, ↓rd_Tv9, ↓wr_Tv9, ↓ln_Tv9, pV_D11, pV_T0, rd_T2, wr_T2, pV_U0, rd_U2, wr_U2, pV_Ps0, pV_Ps1, pV_Ps2, pV_Ps3, pV_Ps4, pV_N0, pV_N1, pV_N2, pV_N3, rd_NL, pV_NB0, rd_NC, wr_NC, rd_NP, wr_NP, pV_V0, pV_V1, pV_V2, pV_V3, rd_VL, pV_VB0, rd_VC, wr_VC, rd_VP, wr_VP, rd_SL, rd_KP, wr_KP, pV_H0, pV_H1, rd_HP, pV_B0, pV_B1, rd_B301, wr_B301, rd_B302, wr_B302, rd_B303, wr_B303, rd_B304, wr_B304, rd_B305, wr_B305, rd_B306, wr_B306, rd_B307, wr_B307, rd_Tv9, wr_Tv9, ↓isO_L, ↓gI_L0, ↓pV_L0, ↓gI_L1, ↓pV_L1, ↓gI_L2, ↓pV_L2, ↓gI_L3, ↓pV_L3, ↓gR_L4, ↓rd_L4, ↓wr_L4, ↓gR_L5, ↓rd_L5, ↓wr_L5, pV_L0, pV_L1, pV_L2, pV_L3, rd_L4, wr_L4, rd_L5, wr_L5, J_l, J_neg, J_add, J_sub, J_mul, J_lt, J_le, J_eq, J_div2, J_rem2, J_shl1, J_orp, J_or, J_and, J_shr, J_ushr, J_max, J_min, J_abs, J_b0, ↓b0_ite, ↓b0_ite2, b0_ite, bI_r, bV_r, b01_ite, ite_true, ite_false, rZ_b, K_l, J_long, M_in, I10, hs0, p1]
      rw [if_neg h4]
    · rw [eM, eN, bI_r]
      exact e1
end LHW
