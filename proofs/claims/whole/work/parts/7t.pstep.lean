/-! points read, one by one -/
section PQ
variable {z y : Nat} {g g' : XH} {w w' : Int64} {s s' s0 s1 s2 m m' m0 m1 m2 : CT} {G W W' V W1 row row' r0 nm lo lg sn f : Int → Int} {wd hg mt c i j l n p v t k x xx yy N q o to : Int} {a b : Nat} {h : XH}
variable {k r u e d lw up st nv zv tv : Int} {w1 w2 w3 : Int64} {x1 x2 x3 x4 x5 : Int32}
theorem ptM_FM (h : FM m m1) : FM (ptM m l k xx yy v) (ptM m1 l k xx yy v) := by
  unfold ptM
  rw [h.1 17 (by decide)]
  refine ⟨fun o ho => ?_, fun j a b c d e => ?_⟩
  · rw [rs_ne ho, rs_ne ho]
    by_cases e17 : o = 17
    · rw [e17, rs_same, rs_same]
    · rw [rs_ne e17, rs_ne e17]; exact h.1 o ho
  · rw [rs_same, rs_same]
    unfold ru
    split
    · rfl
    · split
      · rfl
      · exact h.2 j a b c d e
theorem JL_pt (h : JL s m w) : JL s (ptM m l k xx yy v) w := by
  obtain ⟨⟨⟨t1, t2, t3⟩, a, b, c⟩, d⟩ := h
  unfold JL Lx TapeI ptM
  rw [rs_ne (show (1 : Nat) ≠ 0 by decide), rs_ne (show (1 : Nat) ≠ 17 by decide), rs_same, ru_ne (show (1 : Int) ≠ 34 by decide), ru_ne (show (1 : Int) ≠ 35 by decide), ru_ne (show (23 : Int) ≠ 34 by decide), ru_ne (show (23 : Int) ≠ 35 by decide), ru_ne (show (24 : Int) ≠ 34 by decide), ru_ne (show (24 : Int) ≠ 35 by decide), ru_ne (show (25 : Int) ≠ 34 by decide), ru_ne (show (25 : Int) ≠ 35 by decide), ru_ne (show (27 : Int) ≠ 34 by decide), ru_ne (show (27 : Int) ≠ 35 by decide), ru_ne (show (28 : Int) ≠ 34 by decide), ru_ne (show (28 : Int) ≠ 35 by decide), ru_ne (show (29 : Int) ≠ 34 by decide), ru_ne (show (29 : Int) ≠ 35 by decide)]
  exact ⟨⟨⟨t1, t2, t3⟩, a, b, c⟩, d⟩
theorem ptM_fm : FMm m (ptM m l k xx yy v) := by
  unfold ptM
  refine ⟨fun o a b c => by rw [rs_ne a, rs_ne c], fun j a => by rw [rs_same, ru_ne (by omega), ru_ne (by omega)], fun q => ?_⟩
  rw [rs_same, ru_ne (by decide), ru_ne (by decide)] at q
  exact ⟨q, by rw [rs_same, ru_ne (by decide), ru_ne (by decide)]⟩
theorem point81_nf (h : m 0 29 = 0) : qM_readPoint_81 y x1 x2 x3 y (hi y TM g w m) = rV (hi y TM g w m) := by
  unfold qM_readPoint_81
  rw [isO_M, takes_nf h, bV_r, gI_M29, h, if_pos (show J 0 = (0 : Int32) from rfl)]
theorem point81_fail (h : m 0 29 = 1) : qM_readPoint_81 y x1 x2 (J 0) y (hi y TM g w m) = rV (hi y TM g w (failM m)) := by
  have f : failM m 0 29 = 0 := by unfold failM; rw [rs_same, ru_ne (by decide), ru_same]
  unfold qM_readPoint_81
  rw [isO_M, takes_fail h, bV_r, gI_M29, f, if_pos (show J 0 = (0 : Int32) from rfl)]
theorem point25_nf (h : m 0 29 = 0) : (gI (hi y TM g w m) y 9 30 (fun v2 => isO (hi y TM g w m) y 9 (bI (qM_numberIn y (0 : Int32) (v2 - (1 : Int32)) (hi y TM g w m)) (fun v4 h3 => gI h3 y 9 27 (fun v5 => gI h3 y 9 31 (fun v6 => isO h3 y 9 (bI (qM_isInt y (0 : Int32) (v6 - (1 : Int32)) h3) (fun v8 h7 => if v8 = (0 : Int32) then (qM_readPoint_80 y v4 v5 y h7) else gI h7 y 9 29 (fun v9 => if v9 = (0 : Int32) then (qM_readPoint_76 y v4 v5 y h7) else isO h7 y 9 (bI (qM_canRun y v4 v5 h7) (fun v11 h10 => if v11 = (0 : Int32) then (qM_readPoint_80 y v4 v5 y h10) else qM_readPoint_76 y v4 v5 y h10))))))))))) = rV (hi y TM g w m) := by
  rw [gI_M30, isO_M, numberIn_nf h, bI_r, gI_M27, gI_M31, isO_M]
  rcases isInt_any (y := y) (g := g) (w := w) (m := m) (a := (0 : Int32)) (b := J (m 0 31) - (1 : Int32)) with e | e
  · rw [e, bI_r, if_pos (show J 0 = (0 : Int32) from rfl)]
    unfold qM_readPoint_80
    exact point81_nf h
  · rw [e, bI_r, if_neg (show ¬J 1 = (0 : Int32) by decide), gI_M29, h, if_pos (show J 0 = (0 : Int32) from rfl)]
    unfold qM_readPoint_76
    exact point81_nf h
theorem point_nf (h : m 0 29 = 0) : qM_readPoint y (hi y TM g w m) = rV (hi y TM g w m) := by
  unfold qM_readPoint qM_readPoint_24 qM_readPoint_25
  rw [isO_M, isHere_nf h, bI_r, if_pos (show J 0 = (0 : Int32) from rfl), isO_M, takes_nf h, bV_r]
  exact point25_nf h
/-- a point where none can stand -/
theorem point_no (h : JL s m w') (hn : ¬(s 5 2 = 10 ∧ m 0 34 < 10)) (h34 : 0 ≤ m 0 34 ∧ m 0 34 ≤ 10) : qM_readPoint y (hi y TM g' w' m) = rV (hi y TM g' w' (failM m)) := by
  have nf := (failM_n h).1
  have e := isHere_ok (y := y) (g := g') (v := K (keyN 10)) h
  have e' : qM_isHere y (52 : Int64) (hi y TM g' w' m) = rI (J (b01 (m 0 25 = 2 ∧ w' = K (keyN 10)))) (hi y TM g' w' m) := e
  have tf : qM_takes y (0 : Int32) (hi y TM g' w' m) = rV (hi y TM g' w' (failM m)) := takes_fail h.2
  unfold qM_readPoint qM_readPoint_24 qM_readPoint_25
  by_cases hk : s 5 2 = 10
  · rw [b01_pos ((key_iff h (by omega)).mpr hk)] at e'
    have ng : ¬J (m 0 34) < (10 : Int32) := by
      rw [show (10 : Int32) = J 10 from rfl, J_lt (by omega)]
      omega
    rw [isO_M, e', bI_r, if_neg (show ¬J 1 = (0 : Int32) by decide), gI_M34, if_neg ng, isO_M, tf, bV_r]
    exact point25_nf nf
  · rw [b01_neg (fun q => hk ((key_iff h (by omega)).mp q))] at e'
    rw [isO_M, e', bI_r, if_pos (show J 0 = (0 : Int32) from rfl), isO_M, tf, bV_r]
    exact point25_nf nf
theorem pt_step (hg0 : GOk g z) (h : JL s m w') (hb : PB s m l k) (hln : LnI s m l) (hp : PtJ s m l k nv zv tv) (hk : k < 10) (hat : s 5 2 = 10) {k3 : Nat → Nat → Nat → Nat → Int32 → XH → XR} : (∃ s' m' w2, qPs_readPoints_3_b k3 (z + 5) (z + 1) (z + 35) (z + (40 + 3 * l.toNat)) (J k) (hi z TD g w s) = rI (J 0) (hi z TD g w s') ∧ qM_readPoint y (hi y TM g' w' m) = rV (hi y TM g' w2 m') ∧ NF s' m' ∧ FC s s' ∧ FMm m m') ∨ (∃ s' m' w2, qPs_readPoints_3_b k3 (z + 5) (z + 1) (z + 35) (z + (40 + 3 * l.toNat)) (J k) (hi z TD g w s) = k3 (z + 5) (z + 1) (z + 35) (z + (40 + 3 * l.toNat)) (J (k + 1)) (hi z TD g w s') ∧ qM_readPoint y (hi y TM g' w' m) = rV (hi y TM g' w2 m') ∧ JL s' m' w2 ∧ PB s' m' l (k + 1) ∧ LnI s' m' l ∧ PtJ s' m' l (k + 1) nv zv tv ∧ FC s s' ∧ FMm m m') := by
  have hl := hb.2.2.2.1
  have hk0 := hb.2.2.2.2.1
  have hLn := isLn_40 hl
  have m34 := hp.2.2.2.1.1
  obtain ⟨s1, m1, w1, f1, f2, f3, f4, f5⟩ := next_both (z := z) (y := y) (g := g) (g' := g') (w := w) h
  have hb1 := PB_f hb f4.1 f5
  have hln1 := LnI_f hln f4.1 f5
  have hp1 := PtJ_f hp f4.1 f5
  have hd1 := hb1.1
  have e := isHere_ok (y := y) (g := g') (v := K (keyN 10)) h
  rw [b01_pos ((key_iff h (by omega)).mpr hat)] at e
  have e' : qM_isHere y (K 52) (hi y TM g' w' m) = rI (J 1) (hi y TM g' w' m) := e
  have k5 : J k < (10 : Int32) := by
    rw [show (10 : Int32) = J 10 from rfl, J_lt (by omega)]
    exact hk
  have x30 := hd1.1.1
  have b30 := hd1.2.1
  have b31 := hd1.2.2.1
  by_cases hn : s1 5 2 = 2 ∧ 0 ≤ m1 0 27 ∧ m1 0 27 ≤ m1 0 30 - 1
  · obtain ⟨s2, m2, w2, r1, r2, r3, r4, r5, r6⟩ := num_yes (z := z) (y := y) (g := g) (g' := g') (w := w) (lw := 0) (up := m1 0 30 - 1) f3 (by omega) (by omega) hn
    generalize hxx : m1 0 27 = xx at r2 r5 hn
    have hb2 := PB_f hb1 r4 r6
    have hln2 := LnI_f hln1 r4 r6
    have hp2 := PtJ_f hp1 r4 r6
    have hd2 := hb2.1
    have y31 := hd2.1.2.1
    have c31 := hd2.2.2.1
    have c32 := hd2.2.2.2.1
    have y32 := hd2.1.2.2
    have p34 := hp2.2.2.2.1.1
    have i1 := C_isNumber (z := z) (g := g) (w := w) (lw := 0) (up := m2 0 31 - 1) r3 (by omega) (by omega)
    have i2 := M_isInt (y := y) (g' := g') (lw := 0) (up := m2 0 31 - 1) r3 (by omega) (by omega)
    by_cases hn2 : s2 5 2 = 2 ∧ 0 ≤ m2 0 27 ∧ m2 0 27 ≤ m2 0 31 - 1
    · rw [b01_pos hn2] at i1 i2
      have tk := ((num_iff r3).2 hn2.1).1
      generalize hyy : m2 0 27 = yy at hn2 tk
      have hx40 : 0 ≤ xx ∧ xx < 40 := by omega
      have hy40 : 0 ≤ yy ∧ yy < 40 := by omega
      obtain ⟨⟨a1, a2, a3⟩, a4, a5⟩ := ins_both (z := z) (g := g) (w := w) (w' := w2) (xx := xx) (yy := yy) hg0 r3 hb2 hln2 hp2 hk hx40 hy40
      have pk : s2 (40 + 3 * l.toNat) 1 = k := hp2.1.2.1
      have g32 : insS s2 (40 + 3 * l.toNat) k xx yy 35 2 = m2 0 32 := by
        unfold insS
        rw [rs_ne (by omega), rs_ne (by omega), rs_ne (by omega)]
        exact y32
      have cr := M_canRun (y := y) (g := g') (w := w2) (xx := xx) (yy := yy) hb2.2.2.1 hl p34 ⟨hk0, hk⟩ c32 hx40 hy40 (fun p p0 p1 => (hp2.2.1 p p0 p1).2) hp2.2.2.1
      by_cases hok : k = 0 ∨ ¬bad (ptW (m2 17) l k xx yy) l (m2 0 32) (k - 1)
      · right
        rw [b01_neg (fun q => q hok)] at a4
        rw [b01_pos hok] at cr
        obtain ⟨s3, m3, w3, q1, q2, q3, q4, q5⟩ := next_both (z := z) (y := y) (g := g) (g' := g') (w := w) a2
        have p81 := M_point81 (y := y) (g' := g') r3 hb2 hp2 hk hx40 hy40 q2 q5
        obtain ⟨o1, o2, o3⟩ := a5 hok
        have e17 : m3 17 = m2 17 := q5.1 17 (by decide)
        rw [e17] at p81
        have fmm := ptM_FM (l := l) (k := k) (xx := xx) (yy := yy) (v := pr (ptW (m2 17) l k xx yy) l k) q5
        refine ⟨s3, ptM m3 l k xx yy (pr (ptW (m2 17) l k xx yy) l k), w3, ?_, ?_, JL_pt q3, PB_f o1 q4.1 fmm, LnI_f o2 q4.1 fmm, PtJ_f o3 q4.1 fmm, FC.trans (FC.trans (FC.trans f4.fc (fm_5 r4)) a3) q4.fc, FMm.trans (FMm.trans (FMm.trans f5.fm r6.fm) q5.fm) ptM_fm⟩
        · unfold qPs_readPoints_3_b
          simp (disch := first | assumption | omega) only [↓gR_D0, ↓gR_D1, ↓gR_D2, ↓gR_D3, ↓gR_D4, ↓gR_D5, ↓gR_D6, ↓gR_D7, ↓gR_D8, ↓gR_D9, ↓gR_D10, ↓gI_D11, ↓pV_D11, ↓isO_D, ↓gI_T0, ↓pV_T0, ↓gR_T1, ↓isO_T, ↓rd_T2, ↓wr_T2, ↓gI_U0, ↓pV_U0, ↓gR_U1, ↓isO_U, ↓rd_U2, ↓wr_U2, ↓gI_Ps0, ↓pV_Ps0, ↓gI_Ps1, ↓pV_Ps1, ↓gI_Ps2, ↓pV_Ps2, ↓gI_Ps3, ↓pV_Ps3, ↓gI_Ps4, ↓pV_Ps4, ↓isO_Ps, ↓gI_N0, ↓pV_N0, ↓gI_N1, ↓pV_N1, ↓gI_N2, ↓pV_N2, ↓gI_N3, ↓pV_N3, ↓gR_N4, ↓gR_N5, ↓isO_N, ↓rd_NL, ↓gI_NB0, ↓pV_NB0, ↓gR_NB1, ↓gR_NB2, ↓isO_NB, ↓rd_NC, ↓wr_NC, ↓ln_NC, ↓rd_NP, ↓wr_NP, ↓ln_NP, ↓gI_V0, ↓pV_V0, ↓gI_V1, ↓pV_V1, ↓gI_V2, ↓pV_V2, ↓gI_V3, ↓pV_V3, ↓gR_V4, ↓gR_V5, ↓isO_V, ↓rd_VL, ↓gI_VB0, ↓pV_VB0, ↓gR_VB1, ↓gR_VB2, ↓isO_VB, ↓rd_VC, ↓wr_VC, ↓ln_VC, ↓rd_VP, ↓wr_VP, ↓ln_VP, ↓rd_SL, ↓rd_KP, ↓wr_KP, ↓gI_H0, ↓pV_H0, ↓gI_H1, ↓pV_H1, ↓gR_H2, ↓isO_H, ↓rd_HP, ↓gI_B0, ↓pV_B0, ↓gI_B1, ↓pV_B1, ↓gR_B2, ↓gR_B3, ↓gR_B4, ↓gR_B5, ↓gR_B6, ↓gR_B7, ↓gR_B8, ↓isO_B, ↓rd_B301, ↓wr_B301, ↓ln_B301, ↓rd_B302, ↓wr_B302, ↓ln_B302, ↓rd_B303, ↓wr_B303, ↓ln_B303, ↓rd_B304, ↓wr_B304, ↓ln_B304, ↓rd_B305, ↓wr_B305, ↓ln_B305, ↓rd_B306, ↓wr_B306, ↓ln_B306, ↓rd_B307, ↓wr_B307, ↓ln_B307, ↓gR_Tv, ↓isO_Tv, ↓rd_Tv9, ↓wr_Tv9, ↓ln_Tv9, pV_D11, pV_T0, rd_T2, wr_T2, pV_U0, rd_U2, wr_U2, pV_Ps0, pV_Ps1, pV_Ps2, pV_Ps3, pV_Ps4, pV_N0, pV_N1, pV_N2, pV_N3, rd_NL, pV_NB0, rd_NC, wr_NC, rd_NP, wr_NP, pV_V0, pV_V1, pV_V2, pV_V3, rd_VL, pV_VB0, rd_VC, wr_VC, rd_VP, wr_VP, rd_SL, rd_KP, wr_KP, pV_H0, pV_H1, rd_HP, pV_B0, pV_B1, rd_B301, wr_B301, rd_B302, wr_B302, rd_B303, wr_B303, rd_B304, wr_B304, rd_B305, wr_B305, rd_B306, wr_B306, rd_B307, wr_B307, rd_Tv9, wr_Tv9, ↓isO_L, ↓gI_L0, ↓pV_L0, ↓gI_L1, ↓pV_L1, ↓gI_L2, ↓pV_L2, ↓gI_L3, ↓pV_L3, ↓gR_L4, ↓rd_L4, ↓wr_L4, ↓gR_L5, ↓rd_L5, ↓wr_L5, pV_L0, pV_L1, pV_L2, pV_L3, rd_L4, wr_L4, rd_L5, wr_L5, J_l, J_neg, J_add, J_sub, J_mul, J_lt, J_le, J_eq, J_div2, J_rem2, J_shl1, J_orp, J_or, J_and, J_shr, J_ushr, J_max, J_min, J_abs, J_b0, ↓b0_ite, ↓b0_ite2, b0_ite, bI_r, bV_r, b01_ite, ite_true, ite_false, rZ_b, K_l, J_long, M_in, I10, hat, eq_self, f1, x30, r1, y31, i1, pk, r5, tk, a1, g32, a4, q1]
          rw [if_pos hk]
        · unfold qM_readPoint qM_readPoint_25 qM_readPoint_76
          have n29 := r3.2
          simp (disch := first | assumption | omega) only [↓isO_M, ↓gL_H, ↓pL_H, ↓gI_M1, ↓gI_M2, ↓gI_M3, ↓gI_M4, ↓gI_M5, ↓gI_M6, ↓gI_M13, ↓gI_M22, ↓gI_M23, ↓gI_M24, ↓gI_M25, ↓gI_M27, ↓gI_M28, ↓gI_M29, ↓gI_M30, ↓gI_M31, ↓gI_M32, ↓gI_M33, ↓gI_M34, ↓gI_M35, ↓gI_M40, ↓gI_M41, ↓gI_M42, ↓gI_M43, ↓pV_M1, ↓pV_M2, ↓pV_M3, ↓pV_M4, ↓pV_M5, ↓pV_M6, ↓pV_M13, ↓pV_M22, ↓pV_M23, ↓pV_M24, ↓pV_M25, ↓pV_M27, ↓pV_M28, ↓pV_M29, ↓pV_M30, ↓pV_M31, ↓pV_M32, ↓pV_M33, ↓pV_M34, ↓pV_M35, ↓pV_M40, ↓pV_M41, ↓pV_M42, ↓pV_M43, ↓gR_M0, ↓gR_M7, ↓gR_M8, ↓gR_M9, ↓gR_M10, ↓gR_M11, ↓gR_M12, ↓gR_M14, ↓gR_M15, ↓gR_M16, ↓gR_M17, ↓gR_M18, ↓gR_M19, ↓gR_M20, ↓gR_M21, ↓gR_M36, ↓gR_M37, ↓gR_M38, ↓gR_M39, ↓rd_M1, ↓rd_M2, ↓rd_M3, ↓rd_M4, ↓rd_M5, ↓rd_M6, ↓rd_M7, ↓rd_M8, ↓rd_M9, ↓rd_M10, ↓rd_M11, ↓rd_M12, ↓rd_M13, ↓rd_M14, ↓rd_M15, ↓rd_M16, ↓rd_M17, ↓rd_M18, ↓rd_M19, ↓wr_M1, ↓wr_M2, ↓wr_M3, ↓wr_M4, ↓wr_M5, ↓wr_M6, ↓wr_M7, ↓wr_M8, ↓wr_M9, ↓wr_M10, ↓wr_M11, ↓wr_M12, ↓wr_M13, ↓wr_M14, ↓wr_M15, ↓wr_M16, ↓wr_M17, ↓wr_M18, ↓wr_M19, pL_H, pV_M1, pV_M2, pV_M3, pV_M4, pV_M5, pV_M6, pV_M13, pV_M22, pV_M23, pV_M24, pV_M25, pV_M27, pV_M28, pV_M29, pV_M30, pV_M31, pV_M32, pV_M33, pV_M34, pV_M35, pV_M40, pV_M41, pV_M42, pV_M43, rd_M1, rd_M2, rd_M3, rd_M4, rd_M5, rd_M6, rd_M7, rd_M8, rd_M9, rd_M10, rd_M11, rd_M12, rd_M13, rd_M14, rd_M15, rd_M16, rd_M17, rd_M18, rd_M19, wr_M1, wr_M2, wr_M3, wr_M4, wr_M5, wr_M6, wr_M7, wr_M8, wr_M9, wr_M10, wr_M11, wr_M12, wr_M13, wr_M14, wr_M15, wr_M16, wr_M17, wr_M18, wr_M19, J_l, J_neg, J_add, J_sub, J_mul, J_lt, J_le, J_eq, J_div2, J_rem2, J_shl1, J_orp, J_or, J_and, J_shr, J_ushr, J_max, J_min, J_abs, J_b0, ↓b0_ite, ↓b0_ite2, b0_ite, bI_r, bV_r, b01_ite, ite_true, ite_false, rZ_b, K_l, J_long, M_in, I10, e', m34, f2, r2, hyy, i2, n29, cr, p81]
          rw [if_pos hk]
      · left
        rw [b01_pos hok] at a4
        rw [b01_neg hok] at cr
        have p81 := point81_fail (y := y) (g := g') (w := w2) (x1 := J xx) (x2 := J yy) r3.2
        refine ⟨insS s2 (40 + 3 * l.toNat) k xx yy, failM m2, w2, ?_, ?_, failM_n a2, FC.trans (FC.trans f4.fc (fm_5 r4)) a3, FMm.trans (FMm.trans f5.fm r6.fm) failM_f⟩
        · unfold qPs_readPoints_3_b
          simp (disch := first | assumption | omega) only [↓gR_D0, ↓gR_D1, ↓gR_D2, ↓gR_D3, ↓gR_D4, ↓gR_D5, ↓gR_D6, ↓gR_D7, ↓gR_D8, ↓gR_D9, ↓gR_D10, ↓gI_D11, ↓pV_D11, ↓isO_D, ↓gI_T0, ↓pV_T0, ↓gR_T1, ↓isO_T, ↓rd_T2, ↓wr_T2, ↓gI_U0, ↓pV_U0, ↓gR_U1, ↓isO_U, ↓rd_U2, ↓wr_U2, ↓gI_Ps0, ↓pV_Ps0, ↓gI_Ps1, ↓pV_Ps1, ↓gI_Ps2, ↓pV_Ps2, ↓gI_Ps3, ↓pV_Ps3, ↓gI_Ps4, ↓pV_Ps4, ↓isO_Ps, ↓gI_N0, ↓pV_N0, ↓gI_N1, ↓pV_N1, ↓gI_N2, ↓pV_N2, ↓gI_N3, ↓pV_N3, ↓gR_N4, ↓gR_N5, ↓isO_N, ↓rd_NL, ↓gI_NB0, ↓pV_NB0, ↓gR_NB1, ↓gR_NB2, ↓isO_NB, ↓rd_NC, ↓wr_NC, ↓ln_NC, ↓rd_NP, ↓wr_NP, ↓ln_NP, ↓gI_V0, ↓pV_V0, ↓gI_V1, ↓pV_V1, ↓gI_V2, ↓pV_V2, ↓gI_V3, ↓pV_V3, ↓gR_V4, ↓gR_V5, ↓isO_V, ↓rd_VL, ↓gI_VB0, ↓pV_VB0, ↓gR_VB1, ↓gR_VB2, ↓isO_VB, ↓rd_VC, ↓wr_VC, ↓ln_VC, ↓rd_VP, ↓wr_VP, ↓ln_VP, ↓rd_SL, ↓rd_KP, ↓wr_KP, ↓gI_H0, ↓pV_H0, ↓gI_H1, ↓pV_H1, ↓gR_H2, ↓isO_H, ↓rd_HP, ↓gI_B0, ↓pV_B0, ↓gI_B1, ↓pV_B1, ↓gR_B2, ↓gR_B3, ↓gR_B4, ↓gR_B5, ↓gR_B6, ↓gR_B7, ↓gR_B8, ↓isO_B, ↓rd_B301, ↓wr_B301, ↓ln_B301, ↓rd_B302, ↓wr_B302, ↓ln_B302, ↓rd_B303, ↓wr_B303, ↓ln_B303, ↓rd_B304, ↓wr_B304, ↓ln_B304, ↓rd_B305, ↓wr_B305, ↓ln_B305, ↓rd_B306, ↓wr_B306, ↓ln_B306, ↓rd_B307, ↓wr_B307, ↓ln_B307, ↓gR_Tv, ↓isO_Tv, ↓rd_Tv9, ↓wr_Tv9, ↓ln_Tv9, pV_D11, pV_T0, rd_T2, wr_T2, pV_U0, rd_U2, wr_U2, pV_Ps0, pV_Ps1, pV_Ps2, pV_Ps3, pV_Ps4, pV_N0, pV_N1, pV_N2, pV_N3, rd_NL, pV_NB0, rd_NC, wr_NC, rd_NP, wr_NP, pV_V0, pV_V1, pV_V2, pV_V3, rd_VL, pV_VB0, rd_VC, wr_VC, rd_VP, wr_VP, rd_SL, rd_KP, wr_KP, pV_H0, pV_H1, rd_HP, pV_B0, pV_B1, rd_B301, wr_B301, rd_B302, wr_B302, rd_B303, wr_B303, rd_B304, wr_B304, rd_B305, wr_B305, rd_B306, wr_B306, rd_B307, wr_B307, rd_Tv9, wr_Tv9, ↓isO_L, ↓gI_L0, ↓pV_L0, ↓gI_L1, ↓pV_L1, ↓gI_L2, ↓pV_L2, ↓gI_L3, ↓pV_L3, ↓gR_L4, ↓rd_L4, ↓wr_L4, ↓gR_L5, ↓rd_L5, ↓wr_L5, pV_L0, pV_L1, pV_L2, pV_L3, rd_L4, wr_L4, rd_L5, wr_L5, J_l, J_neg, J_add, J_sub, J_mul, J_lt, J_le, J_eq, J_div2, J_rem2, J_shl1, J_orp, J_or, J_and, J_shr, J_ushr, J_max, J_min, J_abs, J_b0, ↓b0_ite, ↓b0_ite2, b0_ite, bI_r, bV_r, b01_ite, ite_true, ite_false, rZ_b, K_l, J_long, M_in, I10, hat, eq_self, f1, x30, r1, y31, i1, pk, r5, tk, a1, g32, a4]
          rw [if_pos hk]
        · unfold qM_readPoint qM_readPoint_25 qM_readPoint_80
          have n29 := r3.2
          simp (disch := first | assumption | omega) only [↓isO_M, ↓gL_H, ↓pL_H, ↓gI_M1, ↓gI_M2, ↓gI_M3, ↓gI_M4, ↓gI_M5, ↓gI_M6, ↓gI_M13, ↓gI_M22, ↓gI_M23, ↓gI_M24, ↓gI_M25, ↓gI_M27, ↓gI_M28, ↓gI_M29, ↓gI_M30, ↓gI_M31, ↓gI_M32, ↓gI_M33, ↓gI_M34, ↓gI_M35, ↓gI_M40, ↓gI_M41, ↓gI_M42, ↓gI_M43, ↓pV_M1, ↓pV_M2, ↓pV_M3, ↓pV_M4, ↓pV_M5, ↓pV_M6, ↓pV_M13, ↓pV_M22, ↓pV_M23, ↓pV_M24, ↓pV_M25, ↓pV_M27, ↓pV_M28, ↓pV_M29, ↓pV_M30, ↓pV_M31, ↓pV_M32, ↓pV_M33, ↓pV_M34, ↓pV_M35, ↓pV_M40, ↓pV_M41, ↓pV_M42, ↓pV_M43, ↓gR_M0, ↓gR_M7, ↓gR_M8, ↓gR_M9, ↓gR_M10, ↓gR_M11, ↓gR_M12, ↓gR_M14, ↓gR_M15, ↓gR_M16, ↓gR_M17, ↓gR_M18, ↓gR_M19, ↓gR_M20, ↓gR_M21, ↓gR_M36, ↓gR_M37, ↓gR_M38, ↓gR_M39, ↓rd_M1, ↓rd_M2, ↓rd_M3, ↓rd_M4, ↓rd_M5, ↓rd_M6, ↓rd_M7, ↓rd_M8, ↓rd_M9, ↓rd_M10, ↓rd_M11, ↓rd_M12, ↓rd_M13, ↓rd_M14, ↓rd_M15, ↓rd_M16, ↓rd_M17, ↓rd_M18, ↓rd_M19, ↓wr_M1, ↓wr_M2, ↓wr_M3, ↓wr_M4, ↓wr_M5, ↓wr_M6, ↓wr_M7, ↓wr_M8, ↓wr_M9, ↓wr_M10, ↓wr_M11, ↓wr_M12, ↓wr_M13, ↓wr_M14, ↓wr_M15, ↓wr_M16, ↓wr_M17, ↓wr_M18, ↓wr_M19, pL_H, pV_M1, pV_M2, pV_M3, pV_M4, pV_M5, pV_M6, pV_M13, pV_M22, pV_M23, pV_M24, pV_M25, pV_M27, pV_M28, pV_M29, pV_M30, pV_M31, pV_M32, pV_M33, pV_M34, pV_M35, pV_M40, pV_M41, pV_M42, pV_M43, rd_M1, rd_M2, rd_M3, rd_M4, rd_M5, rd_M6, rd_M7, rd_M8, rd_M9, rd_M10, rd_M11, rd_M12, rd_M13, rd_M14, rd_M15, rd_M16, rd_M17, rd_M18, rd_M19, wr_M1, wr_M2, wr_M3, wr_M4, wr_M5, wr_M6, wr_M7, wr_M8, wr_M9, wr_M10, wr_M11, wr_M12, wr_M13, wr_M14, wr_M15, wr_M16, wr_M17, wr_M18, wr_M19, J_l, J_neg, J_add, J_sub, J_mul, J_lt, J_le, J_eq, J_div2, J_rem2, J_shl1, J_orp, J_or, J_and, J_shr, J_ushr, J_max, J_min, J_abs, J_b0, ↓b0_ite, ↓b0_ite2, b0_ite, bI_r, bV_r, b01_ite, ite_true, ite_false, rZ_b, K_l, J_long, M_in, I10, e', m34, f2, r2, hyy, i2, n29, cr, p81]
          rw [if_pos hk]
    · left
      rw [b01_neg hn2] at i1 i2
      have p81 := fun x2 => point81_fail (y := y) (g := g') (w := w2) (x1 := J xx) (x2 := x2) r3.2
      refine ⟨s2, failM m2, w2, ?_, ?_, failM_n r3, FC.trans f4.fc (fm_5 r4), FMm.trans (FMm.trans f5.fm r6.fm) failM_f⟩
      · unfold qPs_readPoints_3_b
        simp (disch := first | assumption | omega) only [↓gR_D0, ↓gR_D1, ↓gR_D2, ↓gR_D3, ↓gR_D4, ↓gR_D5, ↓gR_D6, ↓gR_D7, ↓gR_D8, ↓gR_D9, ↓gR_D10, ↓gI_D11, ↓pV_D11, ↓isO_D, ↓gI_T0, ↓pV_T0, ↓gR_T1, ↓isO_T, ↓rd_T2, ↓wr_T2, ↓gI_U0, ↓pV_U0, ↓gR_U1, ↓isO_U, ↓rd_U2, ↓wr_U2, ↓gI_Ps0, ↓pV_Ps0, ↓gI_Ps1, ↓pV_Ps1, ↓gI_Ps2, ↓pV_Ps2, ↓gI_Ps3, ↓pV_Ps3, ↓gI_Ps4, ↓pV_Ps4, ↓isO_Ps, ↓gI_N0, ↓pV_N0, ↓gI_N1, ↓pV_N1, ↓gI_N2, ↓pV_N2, ↓gI_N3, ↓pV_N3, ↓gR_N4, ↓gR_N5, ↓isO_N, ↓rd_NL, ↓gI_NB0, ↓pV_NB0, ↓gR_NB1, ↓gR_NB2, ↓isO_NB, ↓rd_NC, ↓wr_NC, ↓ln_NC, ↓rd_NP, ↓wr_NP, ↓ln_NP, ↓gI_V0, ↓pV_V0, ↓gI_V1, ↓pV_V1, ↓gI_V2, ↓pV_V2, ↓gI_V3, ↓pV_V3, ↓gR_V4, ↓gR_V5, ↓isO_V, ↓rd_VL, ↓gI_VB0, ↓pV_VB0, ↓gR_VB1, ↓gR_VB2, ↓isO_VB, ↓rd_VC, ↓wr_VC, ↓ln_VC, ↓rd_VP, ↓wr_VP, ↓ln_VP, ↓rd_SL, ↓rd_KP, ↓wr_KP, ↓gI_H0, ↓pV_H0, ↓gI_H1, ↓pV_H1, ↓gR_H2, ↓isO_H, ↓rd_HP, ↓gI_B0, ↓pV_B0, ↓gI_B1, ↓pV_B1, ↓gR_B2, ↓gR_B3, ↓gR_B4, ↓gR_B5, ↓gR_B6, ↓gR_B7, ↓gR_B8, ↓isO_B, ↓rd_B301, ↓wr_B301, ↓ln_B301, ↓rd_B302, ↓wr_B302, ↓ln_B302, ↓rd_B303, ↓wr_B303, ↓ln_B303, ↓rd_B304, ↓wr_B304, ↓ln_B304, ↓rd_B305, ↓wr_B305, ↓ln_B305, ↓rd_B306, ↓wr_B306, ↓ln_B306, ↓rd_B307, ↓wr_B307, ↓ln_B307, ↓gR_Tv, ↓isO_Tv, ↓rd_Tv9, ↓wr_Tv9, ↓ln_Tv9, pV_D11, pV_T0, rd_T2, wr_T2, pV_U0, rd_U2, wr_U2, pV_Ps0, pV_Ps1, pV_Ps2, pV_Ps3, pV_Ps4, pV_N0, pV_N1, pV_N2, pV_N3, rd_NL, pV_NB0, rd_NC, wr_NC, rd_NP, wr_NP, pV_V0, pV_V1, pV_V2, pV_V3, rd_VL, pV_VB0, rd_VC, wr_VC, rd_VP, wr_VP, rd_SL, rd_KP, wr_KP, pV_H0, pV_H1, rd_HP, pV_B0, pV_B1, rd_B301, wr_B301, rd_B302, wr_B302, rd_B303, wr_B303, rd_B304, wr_B304, rd_B305, wr_B305, rd_B306, wr_B306, rd_B307, wr_B307, rd_Tv9, wr_Tv9, ↓isO_L, ↓gI_L0, ↓pV_L0, ↓gI_L1, ↓pV_L1, ↓gI_L2, ↓pV_L2, ↓gI_L3, ↓pV_L3, ↓gR_L4, ↓rd_L4, ↓wr_L4, ↓gR_L5, ↓rd_L5, ↓wr_L5, pV_L0, pV_L1, pV_L2, pV_L3, rd_L4, wr_L4, rd_L5, wr_L5, J_l, J_neg, J_add, J_sub, J_mul, J_lt, J_le, J_eq, J_div2, J_rem2, J_shl1, J_orp, J_or, J_and, J_shr, J_ushr, J_max, J_min, J_abs, J_b0, ↓b0_ite, ↓b0_ite2, b0_ite, bI_r, bV_r, b01_ite, ite_true, ite_false, rZ_b, K_l, J_long, M_in, I10, hat, eq_self, f1, x30, r1, y31, i1]
        rw [if_pos hk]
      · unfold qM_readPoint qM_readPoint_25 qM_readPoint_80
        simp (disch := first | assumption | omega) only [↓isO_M, ↓gL_H, ↓pL_H, ↓gI_M1, ↓gI_M2, ↓gI_M3, ↓gI_M4, ↓gI_M5, ↓gI_M6, ↓gI_M13, ↓gI_M22, ↓gI_M23, ↓gI_M24, ↓gI_M25, ↓gI_M27, ↓gI_M28, ↓gI_M29, ↓gI_M30, ↓gI_M31, ↓gI_M32, ↓gI_M33, ↓gI_M34, ↓gI_M35, ↓gI_M40, ↓gI_M41, ↓gI_M42, ↓gI_M43, ↓pV_M1, ↓pV_M2, ↓pV_M3, ↓pV_M4, ↓pV_M5, ↓pV_M6, ↓pV_M13, ↓pV_M22, ↓pV_M23, ↓pV_M24, ↓pV_M25, ↓pV_M27, ↓pV_M28, ↓pV_M29, ↓pV_M30, ↓pV_M31, ↓pV_M32, ↓pV_M33, ↓pV_M34, ↓pV_M35, ↓pV_M40, ↓pV_M41, ↓pV_M42, ↓pV_M43, ↓gR_M0, ↓gR_M7, ↓gR_M8, ↓gR_M9, ↓gR_M10, ↓gR_M11, ↓gR_M12, ↓gR_M14, ↓gR_M15, ↓gR_M16, ↓gR_M17, ↓gR_M18, ↓gR_M19, ↓gR_M20, ↓gR_M21, ↓gR_M36, ↓gR_M37, ↓gR_M38, ↓gR_M39, ↓rd_M1, ↓rd_M2, ↓rd_M3, ↓rd_M4, ↓rd_M5, ↓rd_M6, ↓rd_M7, ↓rd_M8, ↓rd_M9, ↓rd_M10, ↓rd_M11, ↓rd_M12, ↓rd_M13, ↓rd_M14, ↓rd_M15, ↓rd_M16, ↓rd_M17, ↓rd_M18, ↓rd_M19, ↓wr_M1, ↓wr_M2, ↓wr_M3, ↓wr_M4, ↓wr_M5, ↓wr_M6, ↓wr_M7, ↓wr_M8, ↓wr_M9, ↓wr_M10, ↓wr_M11, ↓wr_M12, ↓wr_M13, ↓wr_M14, ↓wr_M15, ↓wr_M16, ↓wr_M17, ↓wr_M18, ↓wr_M19, pL_H, pV_M1, pV_M2, pV_M3, pV_M4, pV_M5, pV_M6, pV_M13, pV_M22, pV_M23, pV_M24, pV_M25, pV_M27, pV_M28, pV_M29, pV_M30, pV_M31, pV_M32, pV_M33, pV_M34, pV_M35, pV_M40, pV_M41, pV_M42, pV_M43, rd_M1, rd_M2, rd_M3, rd_M4, rd_M5, rd_M6, rd_M7, rd_M8, rd_M9, rd_M10, rd_M11, rd_M12, rd_M13, rd_M14, rd_M15, rd_M16, rd_M17, rd_M18, rd_M19, wr_M1, wr_M2, wr_M3, wr_M4, wr_M5, wr_M6, wr_M7, wr_M8, wr_M9, wr_M10, wr_M11, wr_M12, wr_M13, wr_M14, wr_M15, wr_M16, wr_M17, wr_M18, wr_M19, J_l, J_neg, J_add, J_sub, J_mul, J_lt, J_le, J_eq, J_div2, J_rem2, J_shl1, J_orp, J_or, J_and, J_shr, J_ushr, J_max, J_min, J_abs, J_b0, ↓b0_ite, ↓b0_ite2, b0_ite, bI_r, bV_r, b01_ite, ite_true, ite_false, rZ_b, K_l, J_long, M_in, I10, e', m34, f2, r2, i2, p81]
        rw [if_pos hk]
  · left
    obtain ⟨r1, r2⟩ := num_no (z := z) (y := y) (g := g) (g' := g') (w := w) (lw := 0) (up := m1 0 30 - 1) f3 (by omega) (by omega) hn
    have nf := (failM_n f3).1
    refine ⟨s1, failM m1, w1, ?_, ?_, failM_n f3, f4.fc, FMm.trans f5.fm failM_f⟩
    · unfold qPs_readPoints_3_b
      simp (disch := first | assumption | omega) only [↓gR_D0, ↓gR_D1, ↓gR_D2, ↓gR_D3, ↓gR_D4, ↓gR_D5, ↓gR_D6, ↓gR_D7, ↓gR_D8, ↓gR_D9, ↓gR_D10, ↓gI_D11, ↓pV_D11, ↓isO_D, ↓gI_T0, ↓pV_T0, ↓gR_T1, ↓isO_T, ↓rd_T2, ↓wr_T2, ↓gI_U0, ↓pV_U0, ↓gR_U1, ↓isO_U, ↓rd_U2, ↓wr_U2, ↓gI_Ps0, ↓pV_Ps0, ↓gI_Ps1, ↓pV_Ps1, ↓gI_Ps2, ↓pV_Ps2, ↓gI_Ps3, ↓pV_Ps3, ↓gI_Ps4, ↓pV_Ps4, ↓isO_Ps, ↓gI_N0, ↓pV_N0, ↓gI_N1, ↓pV_N1, ↓gI_N2, ↓pV_N2, ↓gI_N3, ↓pV_N3, ↓gR_N4, ↓gR_N5, ↓isO_N, ↓rd_NL, ↓gI_NB0, ↓pV_NB0, ↓gR_NB1, ↓gR_NB2, ↓isO_NB, ↓rd_NC, ↓wr_NC, ↓ln_NC, ↓rd_NP, ↓wr_NP, ↓ln_NP, ↓gI_V0, ↓pV_V0, ↓gI_V1, ↓pV_V1, ↓gI_V2, ↓pV_V2, ↓gI_V3, ↓pV_V3, ↓gR_V4, ↓gR_V5, ↓isO_V, ↓rd_VL, ↓gI_VB0, ↓pV_VB0, ↓gR_VB1, ↓gR_VB2, ↓isO_VB, ↓rd_VC, ↓wr_VC, ↓ln_VC, ↓rd_VP, ↓wr_VP, ↓ln_VP, ↓rd_SL, ↓rd_KP, ↓wr_KP, ↓gI_H0, ↓pV_H0, ↓gI_H1, ↓pV_H1, ↓gR_H2, ↓isO_H, ↓rd_HP, ↓gI_B0, ↓pV_B0, ↓gI_B1, ↓pV_B1, ↓gR_B2, ↓gR_B3, ↓gR_B4, ↓gR_B5, ↓gR_B6, ↓gR_B7, ↓gR_B8, ↓isO_B, ↓rd_B301, ↓wr_B301, ↓ln_B301, ↓rd_B302, ↓wr_B302, ↓ln_B302, ↓rd_B303, ↓wr_B303, ↓ln_B303, ↓rd_B304, ↓wr_B304, ↓ln_B304, ↓rd_B305, ↓wr_B305, ↓ln_B305, ↓rd_B306, ↓wr_B306, ↓ln_B306, ↓rd_B307, ↓wr_B307, ↓ln_B307, ↓gR_Tv, ↓isO_Tv, ↓rd_Tv9, ↓wr_Tv9, ↓ln_Tv9, pV_D11, pV_T0, rd_T2, wr_T2, pV_U0, rd_U2, wr_U2, pV_Ps0, pV_Ps1, pV_Ps2, pV_Ps3, pV_Ps4, pV_N0, pV_N1, pV_N2, pV_N3, rd_NL, pV_NB0, rd_NC, wr_NC, rd_NP, wr_NP, pV_V0, pV_V1, pV_V2, pV_V3, rd_VL, pV_VB0, rd_VC, wr_VC, rd_VP, wr_VP, rd_SL, rd_KP, wr_KP, pV_H0, pV_H1, rd_HP, pV_B0, pV_B1, rd_B301, wr_B301, rd_B302, wr_B302, rd_B303, wr_B303, rd_B304, wr_B304, rd_B305, wr_B305, rd_B306, wr_B306, rd_B307, wr_B307, rd_Tv9, wr_Tv9, ↓isO_L, ↓gI_L0, ↓pV_L0, ↓gI_L1, ↓pV_L1, ↓gI_L2, ↓pV_L2, ↓gI_L3, ↓pV_L3, ↓gR_L4, ↓rd_L4, ↓wr_L4, ↓gR_L5, ↓rd_L5, ↓wr_L5, pV_L0, pV_L1, pV_L2, pV_L3, rd_L4, wr_L4, rd_L5, wr_L5, J_l, J_neg, J_add, J_sub, J_mul, J_lt, J_le, J_eq, J_div2, J_rem2, J_shl1, J_orp, J_or, J_and, J_shr, J_ushr, J_max, J_min, J_abs, J_b0, ↓b0_ite, ↓b0_ite2, b0_ite, bI_r, bV_r, b01_ite, ite_true, ite_false, rZ_b, K_l, J_long, M_in, I10, hat, eq_self, f1, x30, r1]
      rw [if_pos hk]
    · have e5 : qM_isHere y (52 : Int64) (hi y TM g' w' m) = rI (J 1) (hi y TM g' w' m) := e
      have k34 : J (m 0 34) < (10 : Int32) := by rw [m34]; exact k5
      have f2' : qM_takes y (1 : Int32) (hi y TM g' w' m) = rV (hi y TM g' w1 m1) := f2
      have r2' : qM_numberIn y (0 : Int32) (J (m1 0 30) - (1 : Int32)) (hi y TM g' w1 m1) = rI (J (m1 0 27)) (hi y TM g' w1 (failM m1)) := by
        rw [show (1 : Int32) = J 1 from rfl, J_sub]
        exact r2
      unfold qM_readPoint qM_readPoint_25
      rw [isO_M, e5, bI_r, if_neg (show ¬J 1 = (0 : Int32) by decide), gI_M34, if_pos k34, isO_M, f2', bV_r, gI_M30, isO_M, r2', bI_r, gI_M27, gI_M31, isO_M]
      rcases isInt_any (y := y) (g := g') (w := w1) (m := failM m1) (a := (0 : Int32)) (b := J (failM m1 0 31) - (1 : Int32)) with e | e
      · rw [e, bI_r, if_pos (show J 0 = (0 : Int32) from rfl)]
        unfold qM_readPoint_80
        exact point81_nf nf
      · rw [e, bI_r, if_neg (show ¬J 1 = (0 : Int32) by decide), gI_M29, nf, if_pos (show J 0 = (0 : Int32) from rfl)]
        unfold qM_readPoint_76
        exact point81_nf nf
end PQ
