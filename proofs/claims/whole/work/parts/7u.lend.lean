/-! a line's end on both sides -/
section LNE
variable {z y : Nat} {g g' : XH} {w w' : Int64} {s s' s0 s1 s2 m m' m0 m1 m2 : CT} {G W W' V W1 row row' r0 nm lo lg sn f : Int → Int} {wd hg mt c i j l n p v t k x xx yy N q o to : Int} {a b : Nat} {h : XH}
variable {k r u e d lw up st nv zv tv : Int} {w1 w2 w3 : Int64} {x1 x2 x3 x4 x5 : Int32} {N1 N2 : Nat}
theorem line130_nf (h : m 0 29 = 0) : qM_readLine_130 y x1 x2 x3 x4 y (hi y TM g w m) = rV (hi y TM g w m) := by
  unfold qM_readLine_130
  rw [isO_M, takes_nf h, bV_r, gI_M29, h, if_pos (show J 0 = (0 : Int32) from rfl)]
theorem line129_fail (h : m 0 29 = 1) : qM_readLine_129 y x1 x2 x3 y (hi y TM g w m) = rV (hi y TM g w (failM m)) := by
  have f : failM m 0 29 = 0 := by unfold failM; rw [rs_same, ru_ne (by decide), ru_same]
  have e : qM_takes y (0 : Int32) (hi y TM g w m) = rV (hi y TM g w (failM m)) := takes_fail h
  unfold qM_readLine_129 qM_readLine_130
  rw [isO_M, e, bV_r, gI_M29, f, if_pos (show J 0 = (0 : Int32) from rfl)]
theorem line106_nf (h : m 0 29 = 0) : qM_readLine_106 y x1 x2 x3 (hi y TM g w m) = rV (hi y TM g w m) := by
  unfold qM_readLine_106 qM_readLine_129
  rw [gI_M25]
  split
  · rw [gI_M35]
    split <;> exact line130_nf h
  · exact line130_nf h
theorem line89_nf (h : m 0 29 = 0) : qM_readLine_89 (N1 + 1) y x1 x2 x3 (hi y TM g w m) = rV (hi y TM g w m) := by
  show qM_readLine_89_b (qM_readLine_89 N1) y x1 x2 x3 (hi y TM g w m) = _
  unfold qM_readLine_89_b
  have e : qM_isHere y (52 : Int64) (hi y TM g w m) = rI (J 0) (hi y TM g w m) := isHere_nf h
  rw [isO_M, e, bI_r, if_pos (show J 0 = (0 : Int32) from rfl), line106_nf h]
def lnM (m : CT) (l k nv zv tv : Int) : CT := rs (rs (rs m 16 (ru (m 16) l nv)) 17 (Wp (m 17) l k zv tv)) 0 (ru (m 0) 33 (l + 1))
def LnE (s m : CT) (l : Int) : Prop := HdS s m ∧ s 35 3 = l ∧ m 0 33 = l + 1 ∧ (0 ≤ l ∧ l < 8) ∧ LnI s m (l + 1)
theorem lnM_fm : FMm m (lnM m l k nv zv tv) := by
  unfold lnM
  refine ⟨fun o a b c => by rw [rs_ne a, rs_ne c, rs_ne b], fun j a => by rw [rs_same, ru_ne (by omega)], fun q => ?_⟩
  rw [rs_same, ru_ne (by decide)] at q
  exact ⟨q, by rw [rs_same, ru_ne (by decide)]⟩
theorem JL_ln (h : JL s m w) : JL s (lnM m l k nv zv tv) w := by
  obtain ⟨⟨⟨t1, t2, t3⟩, a, b, c⟩, d⟩ := h
  unfold JL Lx TapeI lnM
  rw [rs_ne (show (1 : Nat) ≠ 0 by decide), rs_ne (show (1 : Nat) ≠ 17 by decide), rs_ne (show (1 : Nat) ≠ 16 by decide), rs_same, ru_ne (show (1 : Int) ≠ 33 by decide), ru_ne (show (23 : Int) ≠ 33 by decide), ru_ne (show (24 : Int) ≠ 33 by decide), ru_ne (show (25 : Int) ≠ 33 by decide), ru_ne (show (27 : Int) ≠ 33 by decide), ru_ne (show (28 : Int) ≠ 33 by decide), ru_ne (show (29 : Int) ≠ 33 by decide)]
  exact ⟨⟨⟨t1, t2, t3⟩, a, b, c⟩, d⟩
theorem prj_bd (hp : PtJ s m l k nv zv tv) (hk : 0 ≤ k ∧ k ≤ 10) : 0 ≤ pr (m 17) l (k - 1) ∧ pr (m 17) l (k - 1) ≤ 390 := by
  by_cases h0 : k = 0
  · unfold pr
    rw [sm_neg (by omega)]
    omega
  have := sm_bd (f := sp (m 17) l) (n := k - 1) (a := 0) (b := 39) (by omega) (fun r r0 r1 => by
    have q1 := (hp.2.1 r r0 (by omega)).2
    have q2 := (hp.2.1 (r + 1) (by omega) (by omega)).2
    unfold sp
    omega)
  unfold pr
  omega
theorem LnE_of (h : JL s m w') (hb : PB s m l k) (hln : LnI s m l) (hp : PtJ s m l k nv zv tv) (hk2 : 2 ≤ k) (hlong : ¬pr (m 17) l (k - 1) < tv - 1) : LnE s (lnM m l k nv zv tv) l := by
  obtain ⟨n1, n2, n3⟩ := Wp_n (W := m 17) (l := l) (k := k) (zv := zv) (tv := tv)
  have q17 : lnM m l k nv zv tv 17 = Wp (m 17) l k zv tv := by unfold lnM; rw [rs_ne (by decide), rs_same]
  have q16 : lnM m l k nv zv tv 16 = ru (m 16) l nv := by unfold lnM; rw [rs_ne (by decide), rs_ne (by decide), rs_same]
  have q0 : ∀ j, j ≠ 33 → lnM m l k nv zv tv 0 j = m 0 j := fun j hj => by unfold lnM; rw [rs_same, ru_ne hj]
  obtain ⟨hd, hb2, hb3, hl, hk⟩ := hb
  refine ⟨?_, hb2, by unfold lnM; rw [rs_same, ru_same], hl, fun i i0 i1 => ?_⟩
  · unfold HdS at *
    rw [q0 30 (by decide), q0 31 (by decide), q0 32 (by decide)]
    exact hd
  · rw [q17, q16]
    by_cases e : i = l
    · rw [e, ru_same]
      refine ⟨PtJ_LV hp, hp.1.1, hp.2.2.2.2.2.2, PtJ_LB hp ⟨hk2, hk.2⟩, fun r r0 r1 => ?_, ?_⟩
      · rw [n1] at r1
        rw [(Wp_wy r0).1]
        have nb := hp.2.2.1 r r0 r1
        by_cases q : wy (m 17) l r < 0
        · exact absurd (Or.inl q) nb
        · omega
      · rw [n2]
        unfold len
        rw [n1, Wp_pr]
        omega
    · have x := hln i i0 (by omega)
      have sn : sameN i (m 17) (Wp (m 17) l k zv tv) := fun j j1 j2 => by
        unfold Wp
        rw [ru_ne (by omega), ru_ne (by omega), ru_ne (by omega)]
      rw [ru_ne e]
      exact ⟨sameN_LV sn x.2.2.2.1.1.2 x.1, x.2.1, x.2.2.1, sameN_LG sn x.2.2.2⟩
theorem line_end (hg0 : GOk g z) (h : JL s m w') (hb : PB s m l k) (hln : LnI s m l) (hp : PtJ s m l k nv zv tv) (hk2 : 2 ≤ k) (hat : ¬(s 5 2 = 10 ∧ k < 10)) : (∃ s' m' w2, qPs_readPoints_95 (z + 5) (z + 1) (z + (40 + 3 * l.toNat)) (hi z TD g w s) = rI (J 0) (hi z TD g w s') ∧ (∀ N1 : Nat, qM_readLine_89 (N1 + 2) y (J nv) (J zv) (J tv) (hi y TM g' w' m) = rV (hi y TM g' w2 m')) ∧ NF s' m' ∧ FC s s' ∧ FMm m m') ∨ ∃ s' m' w2, qPs_readPoints_95 (z + 5) (z + 1) (z + (40 + 3 * l.toNat)) (hi z TD g w s) = rI (J 1) (hi z TD g w s') ∧ (∀ N1 : Nat, qM_readLine_89 (N1 + 2) y (J nv) (J zv) (J tv) (hi y TM g' w' m) = rV (hi y TM g' w2 m')) ∧ JL s' m' w2 ∧ FC s s' ∧ FMm m m' ∧ LnE s' m' l := by
  have hl := hb.2.2.2.1
  have hk := hb.2.2.2.2
  have hLn := isLn_40 hl
  obtain ⟨n1, n2, n3⟩ := Wp_n (W := m 17) (l := l) (k := k) (zv := zv) (tv := tv)
  have sh := L_isShort (z := z) (g := g) (w := w) hLn (PtJ_LV hp) (PtJ_LB hp ⟨hk2, hk.2⟩)
  have ln : len (Wp (m 17) l k zv tv) l = pr (m 17) l (k - 1) := by
    unfold len
    rw [n1, Wp_pr]
  rw [ln, n2] at sh
  have pb := prj_bd hp hk
  have pk := hp.1.2.1
  have ht := hp.2.2.2.2.2.1
  obtain ⟨m34, m35⟩ := hp.2.2.2.1
  have si := sign_iff h
  have tb := TkR_bd h.1.2.2.2
  have ih := isHere_ok (y := y) (g := g') (v := K (keyN 10)) h
  by_cases h3 : s 5 2 = 3
  · rw [b01_neg (fun q => by have := (key_iff h (show 5 ≤ (10 : Int) ∧ (10 : Int) ≤ 10 by omega)).mp q; omega)] at ih
    have ih' : qM_isHere y (52 : Int64) (hi y TM g' w' m) = rI (J 0) (hi y TM g' w' m) := ih
    have m25 := si.mpr h3
    by_cases h4 : pr (m 17) l (k - 1) < tv - 1
    · left
      rw [b01_pos h4] at sh
      refine ⟨s, failM m, w', ?_, fun N1 => ?_, failM_n h, FC.refl, failM_f⟩
      · unfold qPs_readPoints_95
        simp (disch := first | assumption | omega) only [↓gR_D0, ↓gR_D1, ↓gR_D2, ↓gR_D3, ↓gR_D4, ↓gR_D5, ↓gR_D6, ↓gR_D7, ↓gR_D8, ↓gR_D9, ↓gR_D10, ↓gI_D11, ↓pV_D11, ↓isO_D, ↓gI_T0, ↓pV_T0, ↓gR_T1, ↓isO_T, ↓rd_T2, ↓wr_T2, ↓gI_U0, ↓pV_U0, ↓gR_U1, ↓isO_U, ↓rd_U2, ↓wr_U2, ↓gI_Ps0, ↓pV_Ps0, ↓gI_Ps1, ↓pV_Ps1, ↓gI_Ps2, ↓pV_Ps2, ↓gI_Ps3, ↓pV_Ps3, ↓gI_Ps4, ↓pV_Ps4, ↓isO_Ps, ↓gI_N0, ↓pV_N0, ↓gI_N1, ↓pV_N1, ↓gI_N2, ↓pV_N2, ↓gI_N3, ↓pV_N3, ↓gR_N4, ↓gR_N5, ↓isO_N, ↓rd_NL, ↓gI_NB0, ↓pV_NB0, ↓gR_NB1, ↓gR_NB2, ↓isO_NB, ↓rd_NC, ↓wr_NC, ↓ln_NC, ↓rd_NP, ↓wr_NP, ↓ln_NP, ↓gI_V0, ↓pV_V0, ↓gI_V1, ↓pV_V1, ↓gI_V2, ↓pV_V2, ↓gI_V3, ↓pV_V3, ↓gR_V4, ↓gR_V5, ↓isO_V, ↓rd_VL, ↓gI_VB0, ↓pV_VB0, ↓gR_VB1, ↓gR_VB2, ↓isO_VB, ↓rd_VC, ↓wr_VC, ↓ln_VC, ↓rd_VP, ↓wr_VP, ↓ln_VP, ↓rd_SL, ↓rd_KP, ↓wr_KP, ↓gI_H0, ↓pV_H0, ↓gI_H1, ↓pV_H1, ↓gR_H2, ↓isO_H, ↓rd_HP, ↓gI_B0, ↓pV_B0, ↓gI_B1, ↓pV_B1, ↓gR_B2, ↓gR_B3, ↓gR_B4, ↓gR_B5, ↓gR_B6, ↓gR_B7, ↓gR_B8, ↓isO_B, ↓rd_B301, ↓wr_B301, ↓ln_B301, ↓rd_B302, ↓wr_B302, ↓ln_B302, ↓rd_B303, ↓wr_B303, ↓ln_B303, ↓rd_B304, ↓wr_B304, ↓ln_B304, ↓rd_B305, ↓wr_B305, ↓ln_B305, ↓rd_B306, ↓wr_B306, ↓ln_B306, ↓rd_B307, ↓wr_B307, ↓ln_B307, ↓gR_Tv, ↓isO_Tv, ↓rd_Tv9, ↓wr_Tv9, ↓ln_Tv9, pV_D11, pV_T0, rd_T2, wr_T2, pV_U0, rd_U2, wr_U2, pV_Ps0, pV_Ps1, pV_Ps2, pV_Ps3, pV_Ps4, pV_N0, pV_N1, pV_N2, pV_N3, rd_NL, pV_NB0, rd_NC, wr_NC, rd_NP, wr_NP, pV_V0, pV_V1, pV_V2, pV_V3, rd_VL, pV_VB0, rd_VC, wr_VC, rd_VP, wr_VP, rd_SL, rd_KP, wr_KP, pV_H0, pV_H1, rd_HP, pV_B0, pV_B1, rd_B301, wr_B301, rd_B302, wr_B302, rd_B303, wr_B303, rd_B304, wr_B304, rd_B305, wr_B305, rd_B306, wr_B306, rd_B307, wr_B307, rd_Tv9, wr_Tv9, ↓isO_L, ↓gI_L0, ↓pV_L0, ↓gI_L1, ↓pV_L1, ↓gI_L2, ↓pV_L2, ↓gI_L3, ↓pV_L3, ↓gR_L4, ↓rd_L4, ↓wr_L4, ↓gR_L5, ↓rd_L5, ↓wr_L5, pV_L0, pV_L1, pV_L2, pV_L3, rd_L4, wr_L4, rd_L5, wr_L5, J_l, J_neg, J_add, J_sub, J_mul, J_lt, J_le, J_eq, J_div2, J_rem2, J_shl1, J_orp, J_or, J_and, J_shr, J_ushr, J_max, J_min, J_abs, J_b0, ↓b0_ite, ↓b0_ite2, b0_ite, bI_r, bV_r, b01_ite, ite_true, ite_false, rZ_b, K_l, J_long, M_in, pk, sh, I10]
        rw [if_neg (show ¬k < 2 by omega)]
      · show qM_readLine_89_b (qM_readLine_89 (N1 + 1)) y (J nv) (J zv) (J tv) (hi y TM g' w' m) = _
        unfold qM_readLine_89_b qM_readLine_106
        rw [isO_M, ih', bI_r, if_pos (show J 0 = (0 : Int32) from rfl), gI_M25, m25, if_pos (show J 4 = (4 : Int32) from rfl), gI_M35, m35, show J tv - (1 : Int32) = J (tv - 1) from J_sub tv 1, if_pos ((J_lt (by omega)).mpr h4), line129_fail h.2]
    · right
      rw [b01_neg h4] at sh
      obtain ⟨s1, m1, w1, f1, f2, f3, f4, f5⟩ := next_both (z := z) (y := y) (g := g) (g' := g') (w := w) h
      have p1 := pass_yes (z := z) (g := g) (w := w) h (by omega) h3 f1
      have p1' : qPs_pass (z + 5) (z + 1) (3 : Int32) (hi z TD g w s) = rI (J 1) (hi z TD g w s1) := p1
      have hb1 := PB_f hb f4.1 f5
      have hln1 := LnI_f hln f4.1 f5
      have hp1 := PtJ_f hp f4.1 f5
      have e17 : m1 17 = m 17 := f5.1 17 (by decide)
      have n29 := f3.2
      have n33 := hb1.2.2.1
      have n34 := hp1.2.2.2.1.1
      have f2' : qM_takes y (1 : Int32) (hi y TM g' w' m) = rV (hi y TM g' w1 m1) := f2
      refine ⟨s1, lnM m1 l k nv zv tv, w1, ?_, fun N1 => ?_, JL_ln f3, f4.fc, FMm.trans f5.fm lnM_fm, LnE_of f3 hb1 hln1 hp1 hk2 (by rw [e17]; exact h4)⟩
      · unfold qPs_readPoints_95
        simp (disch := first | assumption | omega) only [↓gR_D0, ↓gR_D1, ↓gR_D2, ↓gR_D3, ↓gR_D4, ↓gR_D5, ↓gR_D6, ↓gR_D7, ↓gR_D8, ↓gR_D9, ↓gR_D10, ↓gI_D11, ↓pV_D11, ↓isO_D, ↓gI_T0, ↓pV_T0, ↓gR_T1, ↓isO_T, ↓rd_T2, ↓wr_T2, ↓gI_U0, ↓pV_U0, ↓gR_U1, ↓isO_U, ↓rd_U2, ↓wr_U2, ↓gI_Ps0, ↓pV_Ps0, ↓gI_Ps1, ↓pV_Ps1, ↓gI_Ps2, ↓pV_Ps2, ↓gI_Ps3, ↓pV_Ps3, ↓gI_Ps4, ↓pV_Ps4, ↓isO_Ps, ↓gI_N0, ↓pV_N0, ↓gI_N1, ↓pV_N1, ↓gI_N2, ↓pV_N2, ↓gI_N3, ↓pV_N3, ↓gR_N4, ↓gR_N5, ↓isO_N, ↓rd_NL, ↓gI_NB0, ↓pV_NB0, ↓gR_NB1, ↓gR_NB2, ↓isO_NB, ↓rd_NC, ↓wr_NC, ↓ln_NC, ↓rd_NP, ↓wr_NP, ↓ln_NP, ↓gI_V0, ↓pV_V0, ↓gI_V1, ↓pV_V1, ↓gI_V2, ↓pV_V2, ↓gI_V3, ↓pV_V3, ↓gR_V4, ↓gR_V5, ↓isO_V, ↓rd_VL, ↓gI_VB0, ↓pV_VB0, ↓gR_VB1, ↓gR_VB2, ↓isO_VB, ↓rd_VC, ↓wr_VC, ↓ln_VC, ↓rd_VP, ↓wr_VP, ↓ln_VP, ↓rd_SL, ↓rd_KP, ↓wr_KP, ↓gI_H0, ↓pV_H0, ↓gI_H1, ↓pV_H1, ↓gR_H2, ↓isO_H, ↓rd_HP, ↓gI_B0, ↓pV_B0, ↓gI_B1, ↓pV_B1, ↓gR_B2, ↓gR_B3, ↓gR_B4, ↓gR_B5, ↓gR_B6, ↓gR_B7, ↓gR_B8, ↓isO_B, ↓rd_B301, ↓wr_B301, ↓ln_B301, ↓rd_B302, ↓wr_B302, ↓ln_B302, ↓rd_B303, ↓wr_B303, ↓ln_B303, ↓rd_B304, ↓wr_B304, ↓ln_B304, ↓rd_B305, ↓wr_B305, ↓ln_B305, ↓rd_B306, ↓wr_B306, ↓ln_B306, ↓rd_B307, ↓wr_B307, ↓ln_B307, ↓gR_Tv, ↓isO_Tv, ↓rd_Tv9, ↓wr_Tv9, ↓ln_Tv9, pV_D11, pV_T0, rd_T2, wr_T2, pV_U0, rd_U2, wr_U2, pV_Ps0, pV_Ps1, pV_Ps2, pV_Ps3, pV_Ps4, pV_N0, pV_N1, pV_N2, pV_N3, rd_NL, pV_NB0, rd_NC, wr_NC, rd_NP, wr_NP, pV_V0, pV_V1, pV_V2, pV_V3, rd_VL, pV_VB0, rd_VC, wr_VC, rd_VP, wr_VP, rd_SL, rd_KP, wr_KP, pV_H0, pV_H1, rd_HP, pV_B0, pV_B1, rd_B301, wr_B301, rd_B302, wr_B302, rd_B303, wr_B303, rd_B304, wr_B304, rd_B305, wr_B305, rd_B306, wr_B306, rd_B307, wr_B307, rd_Tv9, wr_Tv9, ↓isO_L, ↓gI_L0, ↓pV_L0, ↓gI_L1, ↓pV_L1, ↓gI_L2, ↓pV_L2, ↓gI_L3, ↓pV_L3, ↓gR_L4, ↓rd_L4, ↓wr_L4, ↓gR_L5, ↓rd_L5, ↓wr_L5, pV_L0, pV_L1, pV_L2, pV_L3, rd_L4, wr_L4, rd_L5, wr_L5, J_l, J_neg, J_add, J_sub, J_mul, J_lt, J_le, J_eq, J_div2, J_rem2, J_shl1, J_orp, J_or, J_and, J_shr, J_ushr, J_max, J_min, J_abs, J_b0, ↓b0_ite, ↓b0_ite2, b0_ite, bI_r, bV_r, b01_ite, ite_true, ite_false, rZ_b, K_l, J_long, M_in, pk, sh, I10, p1]
        rw [if_neg (show ¬k < 2 by omega)]
      · show qM_readLine_89_b (qM_readLine_89 (N1 + 1)) y (J nv) (J zv) (J tv) (hi y TM g' w' m) = _
        unfold qM_readLine_89_b qM_readLine_106
        rw [isO_M, ih', bI_r, if_pos (show J 0 = (0 : Int32) from rfl), gI_M25, m25, if_pos (show J 4 = (4 : Int32) from rfl), gI_M35, m35, show J tv - (1 : Int32) = J (tv - 1) from J_sub tv 1, if_neg (fun q => h4 ((J_lt (by omega)).mp q))]
        unfold qM_readLine_130 qM_newAt lnM Wp
        rw [isO_M, f2', bV_r, gI_M29, n29, if_neg (show ¬J 1 = (0 : Int32) by decide)]
        simp (disch := omega) only [↓isO_M, ↓gL_H, ↓pL_H, ↓gI_M1, ↓gI_M2, ↓gI_M3, ↓gI_M4, ↓gI_M5, ↓gI_M6, ↓gI_M13, ↓gI_M22, ↓gI_M23, ↓gI_M24, ↓gI_M25, ↓gI_M27, ↓gI_M28, ↓gI_M29, ↓gI_M30, ↓gI_M31, ↓gI_M32, ↓gI_M33, ↓gI_M34, ↓gI_M35, ↓gI_M40, ↓gI_M41, ↓gI_M42, ↓gI_M43, ↓pV_M1, ↓pV_M2, ↓pV_M3, ↓pV_M4, ↓pV_M5, ↓pV_M6, ↓pV_M13, ↓pV_M22, ↓pV_M23, ↓pV_M24, ↓pV_M25, ↓pV_M27, ↓pV_M28, ↓pV_M29, ↓pV_M30, ↓pV_M31, ↓pV_M32, ↓pV_M33, ↓pV_M34, ↓pV_M35, ↓pV_M40, ↓pV_M41, ↓pV_M42, ↓pV_M43, ↓gR_M0, ↓gR_M7, ↓gR_M8, ↓gR_M9, ↓gR_M10, ↓gR_M11, ↓gR_M12, ↓gR_M14, ↓gR_M15, ↓gR_M16, ↓gR_M17, ↓gR_M18, ↓gR_M19, ↓gR_M20, ↓gR_M21, ↓gR_M36, ↓gR_M37, ↓gR_M38, ↓gR_M39, ↓rd_M1, ↓rd_M2, ↓rd_M3, ↓rd_M4, ↓rd_M5, ↓rd_M6, ↓rd_M7, ↓rd_M8, ↓rd_M9, ↓rd_M10, ↓rd_M11, ↓rd_M12, ↓rd_M13, ↓rd_M14, ↓rd_M15, ↓rd_M16, ↓rd_M17, ↓rd_M18, ↓rd_M19, ↓wr_M1, ↓wr_M2, ↓wr_M3, ↓wr_M4, ↓wr_M5, ↓wr_M6, ↓wr_M7, ↓wr_M8, ↓wr_M9, ↓wr_M10, ↓wr_M11, ↓wr_M12, ↓wr_M13, ↓wr_M14, ↓wr_M15, ↓wr_M16, ↓wr_M17, ↓wr_M18, ↓wr_M19, pL_H, pV_M1, pV_M2, pV_M3, pV_M4, pV_M5, pV_M6, pV_M13, pV_M22, pV_M23, pV_M24, pV_M25, pV_M27, pV_M28, pV_M29, pV_M30, pV_M31, pV_M32, pV_M33, pV_M34, pV_M35, pV_M40, pV_M41, pV_M42, pV_M43, rd_M1, rd_M2, rd_M3, rd_M4, rd_M5, rd_M6, rd_M7, rd_M8, rd_M9, rd_M10, rd_M11, rd_M12, rd_M13, rd_M14, rd_M15, rd_M16, rd_M17, rd_M18, rd_M19, wr_M1, wr_M2, wr_M3, wr_M4, wr_M5, wr_M6, wr_M7, wr_M8, wr_M9, wr_M10, wr_M11, wr_M12, wr_M13, wr_M14, wr_M15, wr_M16, wr_M17, wr_M18, wr_M19, J_l, J_neg, J_add, J_sub, J_mul, J_lt, J_le, J_eq, J_div2, J_rem2, J_shl1, J_orp, J_or, J_and, J_shr, J_ushr, J_max, J_min, J_abs, J_b0, ↓b0_ite, ↓b0_ite2, b0_ite, bI_r, bV_r, b01_ite, ite_true, ite_false, rZ_b, K_l, J_long, M_in, rs_same, rs_ne, rs_rs, ru_same, ru_ne, ne_eq, n33, n34]
  · left
    have ncl : qPs_readPoints_95 (z + 5) (z + 1) (z + (40 + 3 * l.toNat)) (hi z TD g w s) = rI (J 0) (hi z TD g w s) := by
      have p1 : qPs_pass (z + 5) (z + 1) (J 3) (hi z TD g w s) = rI (J 0) (hi z TD g w s) := pass_no h (by omega) h3
      unfold qPs_readPoints_95
      simp (disch := first | assumption | omega) only [↓gR_D0, ↓gR_D1, ↓gR_D2, ↓gR_D3, ↓gR_D4, ↓gR_D5, ↓gR_D6, ↓gR_D7, ↓gR_D8, ↓gR_D9, ↓gR_D10, ↓gI_D11, ↓pV_D11, ↓isO_D, ↓gI_T0, ↓pV_T0, ↓gR_T1, ↓isO_T, ↓rd_T2, ↓wr_T2, ↓gI_U0, ↓pV_U0, ↓gR_U1, ↓isO_U, ↓rd_U2, ↓wr_U2, ↓gI_Ps0, ↓pV_Ps0, ↓gI_Ps1, ↓pV_Ps1, ↓gI_Ps2, ↓pV_Ps2, ↓gI_Ps3, ↓pV_Ps3, ↓gI_Ps4, ↓pV_Ps4, ↓isO_Ps, ↓gI_N0, ↓pV_N0, ↓gI_N1, ↓pV_N1, ↓gI_N2, ↓pV_N2, ↓gI_N3, ↓pV_N3, ↓gR_N4, ↓gR_N5, ↓isO_N, ↓rd_NL, ↓gI_NB0, ↓pV_NB0, ↓gR_NB1, ↓gR_NB2, ↓isO_NB, ↓rd_NC, ↓wr_NC, ↓ln_NC, ↓rd_NP, ↓wr_NP, ↓ln_NP, ↓gI_V0, ↓pV_V0, ↓gI_V1, ↓pV_V1, ↓gI_V2, ↓pV_V2, ↓gI_V3, ↓pV_V3, ↓gR_V4, ↓gR_V5, ↓isO_V, ↓rd_VL, ↓gI_VB0, ↓pV_VB0, ↓gR_VB1, ↓gR_VB2, ↓isO_VB, ↓rd_VC, ↓wr_VC, ↓ln_VC, ↓rd_VP, ↓wr_VP, ↓ln_VP, ↓rd_SL, ↓rd_KP, ↓wr_KP, ↓gI_H0, ↓pV_H0, ↓gI_H1, ↓pV_H1, ↓gR_H2, ↓isO_H, ↓rd_HP, ↓gI_B0, ↓pV_B0, ↓gI_B1, ↓pV_B1, ↓gR_B2, ↓gR_B3, ↓gR_B4, ↓gR_B5, ↓gR_B6, ↓gR_B7, ↓gR_B8, ↓isO_B, ↓rd_B301, ↓wr_B301, ↓ln_B301, ↓rd_B302, ↓wr_B302, ↓ln_B302, ↓rd_B303, ↓wr_B303, ↓ln_B303, ↓rd_B304, ↓wr_B304, ↓ln_B304, ↓rd_B305, ↓wr_B305, ↓ln_B305, ↓rd_B306, ↓wr_B306, ↓ln_B306, ↓rd_B307, ↓wr_B307, ↓ln_B307, ↓gR_Tv, ↓isO_Tv, ↓rd_Tv9, ↓wr_Tv9, ↓ln_Tv9, pV_D11, pV_T0, rd_T2, wr_T2, pV_U0, rd_U2, wr_U2, pV_Ps0, pV_Ps1, pV_Ps2, pV_Ps3, pV_Ps4, pV_N0, pV_N1, pV_N2, pV_N3, rd_NL, pV_NB0, rd_NC, wr_NC, rd_NP, wr_NP, pV_V0, pV_V1, pV_V2, pV_V3, rd_VL, pV_VB0, rd_VC, wr_VC, rd_VP, wr_VP, rd_SL, rd_KP, wr_KP, pV_H0, pV_H1, rd_HP, pV_B0, pV_B1, rd_B301, wr_B301, rd_B302, wr_B302, rd_B303, wr_B303, rd_B304, wr_B304, rd_B305, wr_B305, rd_B306, wr_B306, rd_B307, wr_B307, rd_Tv9, wr_Tv9, ↓isO_L, ↓gI_L0, ↓pV_L0, ↓gI_L1, ↓pV_L1, ↓gI_L2, ↓pV_L2, ↓gI_L3, ↓pV_L3, ↓gR_L4, ↓rd_L4, ↓wr_L4, ↓gR_L5, ↓rd_L5, ↓wr_L5, pV_L0, pV_L1, pV_L2, pV_L3, rd_L4, wr_L4, rd_L5, wr_L5, J_l, J_neg, J_add, J_sub, J_mul, J_lt, J_le, J_eq, J_div2, J_rem2, J_shl1, J_orp, J_or, J_and, J_shr, J_ushr, J_max, J_min, J_abs, J_b0, ↓b0_ite, ↓b0_ite2, b0_ite, bI_r, bV_r, b01_ite, ite_true, ite_false, rZ_b, K_l, J_long, M_in, pk, sh, I10, p1]
      rw [if_neg (show ¬k < 2 by omega)]
      split <;> rfl
    refine ⟨s, failM m, w', ncl, fun N1 => ?_, failM_n h, FC.refl, failM_f⟩
    show qM_readLine_89_b (qM_readLine_89 (N1 + 1)) y (J nv) (J zv) (J tv) (hi y TM g' w' m) = _
    unfold qM_readLine_89_b
    by_cases h10 : s 5 2 = 10
    · rw [b01_pos ((key_iff h (by omega)).mpr h10)] at ih
      have ih' : qM_isHere y (52 : Int64) (hi y TM g' w' m) = rI (J 1) (hi y TM g' w' m) := ih
      rw [isO_M, ih', bI_r, if_neg (show ¬J 1 = (0 : Int32) by decide), isO_M, point_no h (by omega) (by omega), bV_r, line89_nf (failM_n h).1]
    · rw [b01_neg (fun q => h10 ((key_iff h (by omega)).mp q))] at ih
      have ih' : qM_isHere y (52 : Int64) (hi y TM g' w' m) = rI (J 0) (hi y TM g' w' m) := ih
      have n25 : ¬J (m 0 25) = (4 : Int32) := fun q => h3 (si.mp (by
        rw [show (4 : Int32) = J 4 from rfl, J_eq (by omega)] at q
        exact q))
      unfold qM_readLine_106
      rw [isO_M, ih', bI_r, if_pos (show J 0 = (0 : Int32) from rfl), gI_M25, if_neg n25, line129_fail h.2]
end LNE
