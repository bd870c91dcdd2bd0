/-! a setup text is loaded on both sides: what holds then -/
section LD3
variable {z y : Nat} {g g' : XH} {w w' : Int64} {s s' s0 s1 s2 m m' m0 m1 m2 : CT} {G W W' V W1 row row' r0 nm lo lg sn f : Int → Int} {wd hg mt c i j l n p v t k x xx yy N q o to : Int} {a b : Nat} {h : XH}
variable {k r u e d lw up st nv zv tv E : Int} {w1 w2 w3 : Int64} {x1 x2 x3 x4 x5 : Int32} {N1 N2 D : Nat} {P Q : XR}
/-- the class's rows once a plan that stands in the scratch is taken over -/
theorem C_takeOver (hg0 : GOk g z) (hd : (s 35 0 = wd ∧ s 35 1 = hg ∧ s 35 2 = mt) ∧ s 35 3 = n ∧ s 37 0 = 0) (hn : 0 ≤ n ∧ n ≤ 8) (hL : ∀ l, 0 ≤ l → l < n → LV s (40 + 3 * l.toNat) W l ∧ s (40 + 3 * l.toNat) 0 = nm l ∧ LG W l) (hW : ∀ c, 0 ≤ c → c < 1600 → lbl W c = -2) : ∃ s1 s2, qP_copyFrom (z + 6) (z + 35) (hi z TD g w s) = rV (hi z TD g w s1) ∧ qB_drawLines (z + 300) (z + 6) (hi z TD g w s1) = rV (hi z TD g w s2) ∧ (∀ o, (o < 6 ∨ 34 < o) → (o < 300 ∨ 307 < o) → s2 o = s o) ∧ PlV s2 6 wd hg mt n nm W ∧ BdI W wd hg n (fun _ => -2) s2 := by
  have rk0 : rk W 1600 = 0 := cnt_zero (by omega) (fun i i0 i1 => by rw [hW i i0 i1]; omega)
  have hP : PlV s 35 wd hg mt n nm W := by
    refine ⟨hd.1.1, hd.1.2.1, hd.1.2.2, hd.2.1, fun l l0 l1 => ?_, ?_⟩
    · have x := hL l l0 l1
      exact ⟨x.1, x.2.1⟩
    · refine ⟨by rw [rk0]; exact hd.2.2, fun c c0 c1 c2 => ?_⟩
      rw [hW c c0 c1] at c2
      omega
  obtain ⟨s1, e1, f1, f2⟩ := C_copyPlan (z := z) (g := g) (w := w) (a := 6) (b := 35) isPl_6 isPl_35 (by omega) hn (fun l a b => (hL l a b).2.2.1) (by omega) hP
  obtain ⟨s2, e2, k1, k2, k3, k4⟩ := C_drawLines (z := z) (g := g) (w := w) (s := s1) hg0 hn (fun l a b => (hL l a b).2.2) ⟨f2.2.2.2.1, fun l l0 l1 => (f2.2.2.2.2.1 l l0 l1).1⟩
  refine ⟨s1, s2, e1, e2, fun o o1 o2 => by rw [k1 o o2, f1 o (by omega)], PlV_fr hn.2 (fun o o1 o2 => k1 o (by omega)) f2, ⟨⟨by rw [k2.1]; exact f2.1, by rw [k2.2]; exact f2.2.1⟩, k3, fun i i0 i1 => ?_⟩⟩
  rw [k4 i i0 i1]
  exact (if_pos (show (-2 : Int) < 0 by omega)).symm
theorem GoodW_new (hL : ∀ l, 0 ≤ l → l < n → LG W l) (hW : ∀ c, 0 ≤ c → c < 1600 → lbl W c = -2) : GoodW wd hg n W ∧ Own (LN W n) W (fun _ => -2) 1600 := by
  have hO : Own (LN W n) W (fun _ => -2) 1600 := fun i i0 i1 => ⟨Or.inl rfl, fun c c0 c1 c2 _ => by
    rw [hW c c0 c1] at c2
    omega⟩
  exact ⟨⟨hL, fun c c0 c1 => Or.inl (hW c c0 c1), _, hO⟩, hO⟩
theorem B_load (hg0 : GOk g z) (hI : Inv s m) : Both (qD_load z (hi z TD g w s)) (qM_load y (hi y TM g' w' m)) z y g g' w w' := by
  obtain ⟨m0, hm0⟩ : ∃ m0, rs m 0 (ru (ru (ru (ru (m 0) 2 (-2)) 29 1) 23 0) 33 0) = m0 := ⟨_, rfl⟩
  have k0 : ∀ o, o ≠ 0 → m0 o = m o := fun o ho => by rw [← hm0, rs_ne ho]
  have k00 : ∀ j, j ≠ 2 → j ≠ 29 → j ≠ 23 → j ≠ 33 → m0 0 j = m 0 j := fun j a b c d => by rw [← hm0, rs_same, ru_ne d, ru_ne c, ru_ne b, ru_ne a]
  have k2 : m0 0 2 = -2 := by rw [← hm0, rs_same, ru_ne (by decide), ru_ne (by decide), ru_ne (by decide), ru_same]
  have k29 : m0 0 29 = 1 := by rw [← hm0, rs_same, ru_ne (by decide), ru_ne (by decide), ru_same]
  have k23 : m0 0 23 = 0 := by rw [← hm0, rs_same, ru_ne (by decide), ru_same]
  have k33 : m0 0 33 = 0 := by rw [← hm0, rs_same, ru_same]
  have hT0 : TapeI s m0 := by
    have hT := hI.1
    unfold TapeI at *
    rw [k00 1 (by decide) (by decide) (by decide) (by decide), k0 1 (by decide)]
    exact hT
  rcases parse_both (z := z) (y := y) (g := g) (g' := g') (w := w) (w' := w') hg0 hT0 k23 k29 k33 with ⟨s1, m1, w1, a1, a2, a3, a4, a5⟩ | ⟨s1, m1, w1, n, a1, a2, a3, a4, a5, a6, a7, a8, a9, a10⟩
  · obtain ⟨b1, b2, b3, b4⟩ := a3
    rw [b2] at b3 b4
    obtain ⟨sF, hsF⟩ : ∃ sF, rs (rs s1 0 (ru (s1 0) 11 (s1 5 1))) 1 (ru (s1 1) 0 0) = sF := ⟨_, rfl⟩
    obtain ⟨mF, hmF⟩ : ∃ mF, rs m1 0 (ru (m1 0) 1 0) = mF := ⟨_, rfl⟩
    have x29 : mF 0 29 = 0 := by rw [← hmF, rs_same, ru_ne (by decide)]; exact b1
    refine ⟨J (-1), w1, sF, mF, ?_, ?_, Inv_err hI (fun o ho => ?_) (fun o o1 o2 o3 o4 => ?_) (fun i hi0 => ?_) ⟨?_, ?_, ?_⟩ ⟨?_, ?_⟩⟩
    · unfold qD_load
      simp (disch := omega) only [↓gR_D0, ↓gR_D1, ↓gR_D2, ↓gR_D3, ↓gR_D4, ↓gR_D5, ↓gR_D6, ↓gR_D7, ↓gR_D8, ↓gR_D9, ↓gR_D10, ↓gI_D11, ↓pV_D11, ↓isO_D, ↓gI_T0, ↓pV_T0, ↓gR_T1, ↓isO_T, ↓rd_T2, ↓wr_T2, ↓gI_U0, ↓pV_U0, ↓gR_U1, ↓isO_U, ↓rd_U2, ↓wr_U2, ↓gI_Ps0, ↓pV_Ps0, ↓gI_Ps1, ↓pV_Ps1, ↓gI_Ps2, ↓pV_Ps2, ↓gI_Ps3, ↓pV_Ps3, ↓gI_Ps4, ↓pV_Ps4, ↓isO_Ps, ↓gI_N0, ↓pV_N0, ↓gI_N1, ↓pV_N1, ↓gI_N2, ↓pV_N2, ↓gI_N3, ↓pV_N3, ↓gR_N4, ↓gR_N5, ↓isO_N, ↓rd_NL, ↓gI_NB0, ↓pV_NB0, ↓gR_NB1, ↓gR_NB2, ↓isO_NB, ↓rd_NC, ↓wr_NC, ↓ln_NC, ↓rd_NP, ↓wr_NP, ↓ln_NP, ↓gI_V0, ↓pV_V0, ↓gI_V1, ↓pV_V1, ↓gI_V2, ↓pV_V2, ↓gI_V3, ↓pV_V3, ↓gR_V4, ↓gR_V5, ↓isO_V, ↓rd_VL, ↓gI_VB0, ↓pV_VB0, ↓gR_VB1, ↓gR_VB2, ↓isO_VB, ↓rd_VC, ↓wr_VC, ↓ln_VC, ↓rd_VP, ↓wr_VP, ↓ln_VP, ↓rd_SL, ↓rd_KP, ↓wr_KP, ↓gI_H0, ↓pV_H0, ↓gI_H1, ↓pV_H1, ↓gR_H2, ↓isO_H, ↓rd_HP, ↓gI_B0, ↓pV_B0, ↓gI_B1, ↓pV_B1, ↓gR_B2, ↓gR_B3, ↓gR_B4, ↓gR_B5, ↓gR_B6, ↓gR_B7, ↓gR_B8, ↓isO_B, ↓rd_B301, ↓wr_B301, ↓ln_B301, ↓rd_B302, ↓wr_B302, ↓ln_B302, ↓rd_B303, ↓wr_B303, ↓ln_B303, ↓rd_B304, ↓wr_B304, ↓ln_B304, ↓rd_B305, ↓wr_B305, ↓ln_B305, ↓rd_B306, ↓wr_B306, ↓ln_B306, ↓rd_B307, ↓wr_B307, ↓ln_B307, ↓gR_Tv, ↓isO_Tv, ↓rd_Tv9, ↓wr_Tv9, ↓ln_Tv9, pV_D11, pV_T0, rd_T2, wr_T2, pV_U0, rd_U2, wr_U2, pV_Ps0, pV_Ps1, pV_Ps2, pV_Ps3, pV_Ps4, pV_N0, pV_N1, pV_N2, pV_N3, rd_NL, pV_NB0, rd_NC, wr_NC, rd_NP, wr_NP, pV_V0, pV_V1, pV_V2, pV_V3, rd_VL, pV_VB0, rd_VC, wr_VC, rd_VP, wr_VP, rd_SL, rd_KP, wr_KP, pV_H0, pV_H1, rd_HP, pV_B0, pV_B1, rd_B301, wr_B301, rd_B302, wr_B302, rd_B303, wr_B303, rd_B304, wr_B304, rd_B305, wr_B305, rd_B306, wr_B306, rd_B307, wr_B307, rd_Tv9, wr_Tv9, J_l, J_neg, J_add, J_sub, J_mul, J_lt, J_le, J_eq, J_div2, J_rem2, J_shl1, J_orp, J_or, J_and, J_shr, J_ushr, J_max, J_min, J_abs, J_b0, ↓b0_ite, ↓b0_ite2, b0_ite, bI_r, bV_r, b01_ite, ite_true, ite_false, rZ_b, K_l, J_long, M_in, rs_same, rs_ne, rs_rs, ru_same, ru_ne, ne_eq, a1, hsF]
      rw [if_neg (show ¬s1 5 1 < 0 by omega)]
    · unfold qM_load
      simp (disch := omega) only [↓isO_M, ↓gL_H, ↓pL_H, ↓gI_M1, ↓gI_M2, ↓gI_M3, ↓gI_M4, ↓gI_M5, ↓gI_M6, ↓gI_M13, ↓gI_M22, ↓gI_M23, ↓gI_M24, ↓gI_M25, ↓gI_M27, ↓gI_M28, ↓gI_M29, ↓gI_M30, ↓gI_M31, ↓gI_M32, ↓gI_M33, ↓gI_M34, ↓gI_M35, ↓gI_M40, ↓gI_M41, ↓gI_M42, ↓gI_M43, ↓pV_M1, ↓pV_M2, ↓pV_M3, ↓pV_M4, ↓pV_M5, ↓pV_M6, ↓pV_M13, ↓pV_M22, ↓pV_M23, ↓pV_M24, ↓pV_M25, ↓pV_M27, ↓pV_M28, ↓pV_M29, ↓pV_M30, ↓pV_M31, ↓pV_M32, ↓pV_M33, ↓pV_M34, ↓pV_M35, ↓pV_M40, ↓pV_M41, ↓pV_M42, ↓pV_M43, ↓gR_M0, ↓gR_M7, ↓gR_M8, ↓gR_M9, ↓gR_M10, ↓gR_M11, ↓gR_M12, ↓gR_M14, ↓gR_M15, ↓gR_M16, ↓gR_M17, ↓gR_M18, ↓gR_M19, ↓gR_M20, ↓gR_M21, ↓gR_M36, ↓gR_M37, ↓gR_M38, ↓gR_M39, ↓rd_M1, ↓rd_M2, ↓rd_M3, ↓rd_M4, ↓rd_M5, ↓rd_M6, ↓rd_M7, ↓rd_M8, ↓rd_M9, ↓rd_M10, ↓rd_M11, ↓rd_M12, ↓rd_M13, ↓rd_M14, ↓rd_M15, ↓rd_M16, ↓rd_M17, ↓rd_M18, ↓rd_M19, ↓wr_M1, ↓wr_M2, ↓wr_M3, ↓wr_M4, ↓wr_M5, ↓wr_M6, ↓wr_M7, ↓wr_M8, ↓wr_M9, ↓wr_M10, ↓wr_M11, ↓wr_M12, ↓wr_M13, ↓wr_M14, ↓wr_M15, ↓wr_M16, ↓wr_M17, ↓wr_M18, ↓wr_M19, pL_H, pV_M1, pV_M2, pV_M3, pV_M4, pV_M5, pV_M6, pV_M13, pV_M22, pV_M23, pV_M24, pV_M25, pV_M27, pV_M28, pV_M29, pV_M30, pV_M31, pV_M32, pV_M33, pV_M34, pV_M35, pV_M40, pV_M41, pV_M42, pV_M43, rd_M1, rd_M2, rd_M3, rd_M4, rd_M5, rd_M6, rd_M7, rd_M8, rd_M9, rd_M10, rd_M11, rd_M12, rd_M13, rd_M14, rd_M15, rd_M16, rd_M17, rd_M18, rd_M19, wr_M1, wr_M2, wr_M3, wr_M4, wr_M5, wr_M6, wr_M7, wr_M8, wr_M9, wr_M10, wr_M11, wr_M12, wr_M13, wr_M14, wr_M15, wr_M16, wr_M17, wr_M18, wr_M19, J_l, J_neg, J_add, J_sub, J_mul, J_lt, J_le, J_eq, J_div2, J_rem2, J_shl1, J_orp, J_or, J_and, J_shr, J_ushr, J_max, J_min, J_abs, J_b0, ↓b0_ite, ↓b0_ite2, b0_ite, bI_r, bV_r, b01_ite, ite_true, ite_false, rZ_b, K_l, J_long, M_in, rs_same, rs_ne, rs_rs, ru_same, ru_ne, ne_eq, hm0, a2, hmF, x29]
      rw [if_pos b1]
    · rw [← hsF, rs_ne (by omega), rs_ne (by omega)]; exact a4 o (by omega)
    · rw [← hmF, rs_ne o1, a5.1 o o1 o3 o4, k0 o o1]
    · rw [← hmF, rs_same, ru_ne (by omega), a5.2.1 i (by omega), k00 i (by omega) (by omega) (by omega) (by omega)]
    · rw [← hsF, ← hmF, rs_same, rs_same, ru_same, ru_same]
    · rw [← hmF, rs_same, ru_same]; omega
    · rw [← hmF, rs_same, ru_same]; intro i i0 i1; omega
    · rw [← hsF, ← hmF, rs_ne (by decide), rs_same, ru_same, rs_same, ru_ne (by decide), b2]
    · rw [← hmF, rs_same, ru_ne (by decide), b2]; omega
  · obtain ⟨⟨d1, d2, d3⟩, d4, d5, d6, d7⟩ := a6
    have x29 := a3.2
    have y2 := (a5.2.2 x29).2
    rw [k2] at y2
    obtain ⟨m2, hm2⟩ : ∃ m2, rs m1 0 (ru (ru (ru (ru (ru (m1 0) 1 0) 3 (m1 0 30)) 4 (m1 0 31)) 5 (m1 0 32)) 6 n) = m2 := ⟨_, rfl⟩
    obtain ⟨m3, e3, f3, f4⟩ := M_empties (y := y) (g := g') (w := w1) (m := m2)
    obtain ⟨m4, hm4⟩ : ∃ m4, rs (rs m3 7 (ru (ru (m2 7) 0 0) 1 0)) 0 (ru (m2 0) 13 0) = m4 := ⟨_, rfl⟩
    rw [hm4] at e3
    have q6 : m4 0 6 = n := by rw [← hm4, rs_same, ru_ne (by decide), ← hm2, rs_same, ru_same]
    obtain ⟨mF, e5, f5, f6, f7⟩ := M_load77 (y := y) (g := g') (w := w1) (m := m4) a9 q6
    -- the model's rows at the end
    have z0 : mF 0 = ru (m2 0) 13 0 := by rw [f5 0 (by decide) (by decide), ← hm4, rs_same]
    have z17 : m4 17 = m1 17 := by rw [← hm4, rs_ne (by decide), rs_ne (by decide), f3 17 (by decide), ← hm2, rs_ne (by decide)]
    have z16 : m4 16 = m1 16 := by rw [← hm4, rs_ne (by decide), rs_ne (by decide), f3 16 (by decide), ← hm2, rs_ne (by decide)]
    have z3 : ∀ j, 0 ≤ j → j < 1784 → m4 3 j = if j < 184 then 0 else -2 := fun j j0 j1 => by
      rw [← hm4, rs_ne (by decide), rs_ne (by decide)]; exact f4 j j0 j1
    have h2 : m2 0 = ru (ru (ru (ru (ru (m1 0) 1 0) 3 (m1 0 30)) 4 (m1 0 31)) 5 (m1 0 32)) 6 n := by rw [← hm2, rs_same]
    have v1 : mF 0 1 = 0 := by rw [z0, h2]; simp (disch := decide) only [rs_same, rs_ne, rs_rs, ru_same, ru_ne, ne_eq]
    have v2 : mF 0 2 = -2 := by rw [z0, h2]; simp (disch := decide) only [rs_same, rs_ne, rs_rs, ru_same, ru_ne, ne_eq, y2]
    have v3 : mF 0 3 = m1 0 30 := by rw [z0, h2]; simp (disch := decide) only [rs_same, rs_ne, rs_rs, ru_same, ru_ne, ne_eq]
    have v4 : mF 0 4 = m1 0 31 := by rw [z0, h2]; simp (disch := decide) only [rs_same, rs_ne, rs_rs, ru_same, ru_ne, ne_eq]
    have v5 : mF 0 5 = m1 0 32 := by rw [z0, h2]; simp (disch := decide) only [rs_same, rs_ne, rs_rs, ru_same, ru_ne, ne_eq]
    have v6 : mF 0 6 = n := by rw [z0, h2]; simp (disch := decide) only [rs_same, rs_ne, rs_rs, ru_same, ru_ne, ne_eq]
    have v13 : mF 0 13 = 0 := by rw [z0, ru_same]
    have v7 : mF 7 = ru (ru (m2 7) 0 0) 1 0 := by rw [f5 7 (by decide) (by decide), ← hm4, rs_ne (by decide), rs_same]
    have hW : ∀ c, 0 ≤ c → c < 1600 → lbl (mF 3) c = -2 := fun c c0 c1 => by
      unfold lbl
      rw [f6 (184 + c), if_neg (by omega), z3 (184 + c) (by omega) (by omega), if_neg (by omega)]
    have hL : ∀ l, 0 ≤ l → l < n → LV s1 (40 + 3 * l.toNat) (mF 3) l ∧ s1 (40 + 3 * l.toNat) 0 = mF 2 l ∧ LG (mF 3) l := fun l l0 l1 => by
      have x := a10 l l0 l1
      have sn : sameN l (m1 17) (mF 3) := fun j j1 j2 => by
        rw [f6 j, if_pos (by omega), z17]
      refine ⟨sameN_LV sn x.2.2.2.1.1.2 x.1, ?_, sameN_LG sn x.2.2.2⟩
      rw [f7 l l0 l1, z16]
      exact x.2.1
    -- the class's rows
    obtain ⟨s2, hs2⟩ : ∃ s2, rs (rs s1 0 (ru (s1 0) 11 (-2))) 1 (ru (s1 1) 0 0) = s2 := ⟨_, rfl⟩
    have g2 : ∀ o, 2 ≤ o → s2 o = s1 o := fun o ho => by rw [← hs2, rs_ne (by omega), rs_ne (by omega)]
    obtain ⟨s3, s4, c1, c2, c3, c4, c5⟩ := C_takeOver (z := z) (g := g) (w := w) (s := s2) (wd := m1 0 30) (hg := m1 0 31) (mt := m1 0 32) (n := n) (nm := mF 2) (W := mF 3) hg0 (by rw [g2 35 (by decide), g2 37 (by decide)]; exact ⟨⟨d1, d2, d3⟩, a7, d7⟩) a9 (fun l l0 l1 => by
      have x := hL l l0 l1
      unfold LV at *
      rw [g2 _ (by omega), g2 _ (by omega), g2 _ (by omega)]
      exact x) hW
    obtain ⟨sF, hsF⟩ : ∃ sF, rs (rs s4 66 (ru (s4 66) 0 0)) 65 (ru (ru (s4 65) 0 0) 1 0) = sF := ⟨_, rfl⟩
    have gF : ∀ o, o ≠ 65 → o ≠ 66 → sF o = s4 o := fun o o1 o2 => by rw [← hsF, rs_ne o1, rs_ne o2]
    have w63 : s4 6 3 = n := c4.2.2.2.1
    obtain ⟨gw, go⟩ := GoodW_new (wd := m1 0 30) (hg := m1 0 31) (fun l l0 l1 => (hL l l0 l1).2.2) hW
    refine ⟨J n, w1, sF, mF, ?_, ?_, ⟨?_, ?_, ?_⟩, ⟨?_, ?_⟩, ⟨?_, fun l l0 l1 => ?_, ⟨?_, ?_⟩, fun _ => -2, ?_, ?_⟩, fun j j0 j1 => ⟨?_, ?_, fun q => ?_⟩, ⟨?_, ?_, ?_, fun i i0 i1 => ?_⟩⟩
    · unfold qD_load
      simp (disch := omega) only [↓gR_D0, ↓gR_D1, ↓gR_D2, ↓gR_D3, ↓gR_D4, ↓gR_D5, ↓gR_D6, ↓gR_D7, ↓gR_D8, ↓gR_D9, ↓gR_D10, ↓gI_D11, ↓pV_D11, ↓isO_D, ↓gI_T0, ↓pV_T0, ↓gR_T1, ↓isO_T, ↓rd_T2, ↓wr_T2, ↓gI_U0, ↓pV_U0, ↓gR_U1, ↓isO_U, ↓rd_U2, ↓wr_U2, ↓gI_Ps0, ↓pV_Ps0, ↓gI_Ps1, ↓pV_Ps1, ↓gI_Ps2, ↓pV_Ps2, ↓gI_Ps3, ↓pV_Ps3, ↓gI_Ps4, ↓pV_Ps4, ↓isO_Ps, ↓gI_N0, ↓pV_N0, ↓gI_N1, ↓pV_N1, ↓gI_N2, ↓pV_N2, ↓gI_N3, ↓pV_N3, ↓gR_N4, ↓gR_N5, ↓isO_N, ↓rd_NL, ↓gI_NB0, ↓pV_NB0, ↓gR_NB1, ↓gR_NB2, ↓isO_NB, ↓rd_NC, ↓wr_NC, ↓ln_NC, ↓rd_NP, ↓wr_NP, ↓ln_NP, ↓gI_V0, ↓pV_V0, ↓gI_V1, ↓pV_V1, ↓gI_V2, ↓pV_V2, ↓gI_V3, ↓pV_V3, ↓gR_V4, ↓gR_V5, ↓isO_V, ↓rd_VL, ↓gI_VB0, ↓pV_VB0, ↓gR_VB1, ↓gR_VB2, ↓isO_VB, ↓rd_VC, ↓wr_VC, ↓ln_VC, ↓rd_VP, ↓wr_VP, ↓ln_VP, ↓rd_SL, ↓rd_KP, ↓wr_KP, ↓gI_H0, ↓pV_H0, ↓gI_H1, ↓pV_H1, ↓gR_H2, ↓isO_H, ↓rd_HP, ↓gI_B0, ↓pV_B0, ↓gI_B1, ↓pV_B1, ↓gR_B2, ↓gR_B3, ↓gR_B4, ↓gR_B5, ↓gR_B6, ↓gR_B7, ↓gR_B8, ↓isO_B, ↓rd_B301, ↓wr_B301, ↓ln_B301, ↓rd_B302, ↓wr_B302, ↓ln_B302, ↓rd_B303, ↓wr_B303, ↓ln_B303, ↓rd_B304, ↓wr_B304, ↓ln_B304, ↓rd_B305, ↓wr_B305, ↓ln_B305, ↓rd_B306, ↓wr_B306, ↓ln_B306, ↓rd_B307, ↓wr_B307, ↓ln_B307, ↓gR_Tv, ↓isO_Tv, ↓rd_Tv9, ↓wr_Tv9, ↓ln_Tv9, pV_D11, pV_T0, rd_T2, wr_T2, pV_U0, rd_U2, wr_U2, pV_Ps0, pV_Ps1, pV_Ps2, pV_Ps3, pV_Ps4, pV_N0, pV_N1, pV_N2, pV_N3, rd_NL, pV_NB0, rd_NC, wr_NC, rd_NP, wr_NP, pV_V0, pV_V1, pV_V2, pV_V3, rd_VL, pV_VB0, rd_VC, wr_VC, rd_VP, wr_VP, rd_SL, rd_KP, wr_KP, pV_H0, pV_H1, rd_HP, pV_B0, pV_B1, rd_B301, wr_B301, rd_B302, wr_B302, rd_B303, wr_B303, rd_B304, wr_B304, rd_B305, wr_B305, rd_B306, wr_B306, rd_B307, wr_B307, rd_Tv9, wr_Tv9, J_l, J_neg, J_add, J_sub, J_mul, J_lt, J_le, J_eq, J_div2, J_rem2, J_shl1, J_orp, J_or, J_and, J_shr, J_ushr, J_max, J_min, J_abs, J_b0, ↓b0_ite, ↓b0_ite2, b0_ite, bI_r, bV_r, b01_ite, ite_true, ite_false, rZ_b, K_l, J_long, M_in, rs_same, rs_ne, rs_rs, ru_same, ru_ne, ne_eq, a1, hs2, c1, c2]
      rw [if_pos (show (-2 : Int) < 0 by omega)]
      unfold qH_forget
      rw [show (0 : Int32) = J 0 from rfl, pV_H0, bV_r, C_load67]
      unfold qD_load_85
      simp (disch := omega) only [↓gR_D0, ↓gR_D1, ↓gR_D2, ↓gR_D3, ↓gR_D4, ↓gR_D5, ↓gR_D6, ↓gR_D7, ↓gR_D8, ↓gR_D9, ↓gR_D10, ↓gI_D11, ↓pV_D11, ↓isO_D, ↓gI_T0, ↓pV_T0, ↓gR_T1, ↓isO_T, ↓rd_T2, ↓wr_T2, ↓gI_U0, ↓pV_U0, ↓gR_U1, ↓isO_U, ↓rd_U2, ↓wr_U2, ↓gI_Ps0, ↓pV_Ps0, ↓gI_Ps1, ↓pV_Ps1, ↓gI_Ps2, ↓pV_Ps2, ↓gI_Ps3, ↓pV_Ps3, ↓gI_Ps4, ↓pV_Ps4, ↓isO_Ps, ↓gI_N0, ↓pV_N0, ↓gI_N1, ↓pV_N1, ↓gI_N2, ↓pV_N2, ↓gI_N3, ↓pV_N3, ↓gR_N4, ↓gR_N5, ↓isO_N, ↓rd_NL, ↓gI_NB0, ↓pV_NB0, ↓gR_NB1, ↓gR_NB2, ↓isO_NB, ↓rd_NC, ↓wr_NC, ↓ln_NC, ↓rd_NP, ↓wr_NP, ↓ln_NP, ↓gI_V0, ↓pV_V0, ↓gI_V1, ↓pV_V1, ↓gI_V2, ↓pV_V2, ↓gI_V3, ↓pV_V3, ↓gR_V4, ↓gR_V5, ↓isO_V, ↓rd_VL, ↓gI_VB0, ↓pV_VB0, ↓gR_VB1, ↓gR_VB2, ↓isO_VB, ↓rd_VC, ↓wr_VC, ↓ln_VC, ↓rd_VP, ↓wr_VP, ↓ln_VP, ↓rd_SL, ↓rd_KP, ↓wr_KP, ↓gI_H0, ↓pV_H0, ↓gI_H1, ↓pV_H1, ↓gR_H2, ↓isO_H, ↓rd_HP, ↓gI_B0, ↓pV_B0, ↓gI_B1, ↓pV_B1, ↓gR_B2, ↓gR_B3, ↓gR_B4, ↓gR_B5, ↓gR_B6, ↓gR_B7, ↓gR_B8, ↓isO_B, ↓rd_B301, ↓wr_B301, ↓ln_B301, ↓rd_B302, ↓wr_B302, ↓ln_B302, ↓rd_B303, ↓wr_B303, ↓ln_B303, ↓rd_B304, ↓wr_B304, ↓ln_B304, ↓rd_B305, ↓wr_B305, ↓ln_B305, ↓rd_B306, ↓wr_B306, ↓ln_B306, ↓rd_B307, ↓wr_B307, ↓ln_B307, ↓gR_Tv, ↓isO_Tv, ↓rd_Tv9, ↓wr_Tv9, ↓ln_Tv9, pV_D11, pV_T0, rd_T2, wr_T2, pV_U0, rd_U2, wr_U2, pV_Ps0, pV_Ps1, pV_Ps2, pV_Ps3, pV_Ps4, pV_N0, pV_N1, pV_N2, pV_N3, rd_NL, pV_NB0, rd_NC, wr_NC, rd_NP, wr_NP, pV_V0, pV_V1, pV_V2, pV_V3, rd_VL, pV_VB0, rd_VC, wr_VC, rd_VP, wr_VP, rd_SL, rd_KP, wr_KP, pV_H0, pV_H1, rd_HP, pV_B0, pV_B1, rd_B301, wr_B301, rd_B302, wr_B302, rd_B303, wr_B303, rd_B304, wr_B304, rd_B305, wr_B305, rd_B306, wr_B306, rd_B307, wr_B307, rd_Tv9, wr_Tv9, J_l, J_neg, J_add, J_sub, J_mul, J_lt, J_le, J_eq, J_div2, J_rem2, J_shl1, J_orp, J_or, J_and, J_shr, J_ushr, J_max, J_min, J_abs, J_b0, ↓b0_ite, ↓b0_ite2, b0_ite, bI_r, bV_r, b01_ite, ite_true, ite_false, rZ_b, K_l, J_long, M_in, rs_same, rs_ne, rs_rs, ru_same, ru_ne, ne_eq, hsF, w63]
    · have n1 : ¬J 1 = (0 : Int32) := by decide
      unfold qM_load
      simp (disch := omega) only [↓isO_M, ↓gL_H, ↓pL_H, ↓gI_M1, ↓gI_M2, ↓gI_M3, ↓gI_M4, ↓gI_M5, ↓gI_M6, ↓gI_M13, ↓gI_M22, ↓gI_M23, ↓gI_M24, ↓gI_M25, ↓gI_M27, ↓gI_M28, ↓gI_M29, ↓gI_M30, ↓gI_M31, ↓gI_M32, ↓gI_M33, ↓gI_M34, ↓gI_M35, ↓gI_M40, ↓gI_M41, ↓gI_M42, ↓gI_M43, ↓pV_M1, ↓pV_M2, ↓pV_M3, ↓pV_M4, ↓pV_M5, ↓pV_M6, ↓pV_M13, ↓pV_M22, ↓pV_M23, ↓pV_M24, ↓pV_M25, ↓pV_M27, ↓pV_M28, ↓pV_M29, ↓pV_M30, ↓pV_M31, ↓pV_M32, ↓pV_M33, ↓pV_M34, ↓pV_M35, ↓pV_M40, ↓pV_M41, ↓pV_M42, ↓pV_M43, ↓gR_M0, ↓gR_M7, ↓gR_M8, ↓gR_M9, ↓gR_M10, ↓gR_M11, ↓gR_M12, ↓gR_M14, ↓gR_M15, ↓gR_M16, ↓gR_M17, ↓gR_M18, ↓gR_M19, ↓gR_M20, ↓gR_M21, ↓gR_M36, ↓gR_M37, ↓gR_M38, ↓gR_M39, ↓rd_M1, ↓rd_M2, ↓rd_M3, ↓rd_M4, ↓rd_M5, ↓rd_M6, ↓rd_M7, ↓rd_M8, ↓rd_M9, ↓rd_M10, ↓rd_M11, ↓rd_M12, ↓rd_M13, ↓rd_M14, ↓rd_M15, ↓rd_M16, ↓rd_M17, ↓rd_M18, ↓rd_M19, ↓wr_M1, ↓wr_M2, ↓wr_M3, ↓wr_M4, ↓wr_M5, ↓wr_M6, ↓wr_M7, ↓wr_M8, ↓wr_M9, ↓wr_M10, ↓wr_M11, ↓wr_M12, ↓wr_M13, ↓wr_M14, ↓wr_M15, ↓wr_M16, ↓wr_M17, ↓wr_M18, ↓wr_M19, pL_H, pV_M1, pV_M2, pV_M3, pV_M4, pV_M5, pV_M6, pV_M13, pV_M22, pV_M23, pV_M24, pV_M25, pV_M27, pV_M28, pV_M29, pV_M30, pV_M31, pV_M32, pV_M33, pV_M34, pV_M35, pV_M40, pV_M41, pV_M42, pV_M43, rd_M1, rd_M2, rd_M3, rd_M4, rd_M5, rd_M6, rd_M7, rd_M8, rd_M9, rd_M10, rd_M11, rd_M12, rd_M13, rd_M14, rd_M15, rd_M16, rd_M17, rd_M18, rd_M19, wr_M1, wr_M2, wr_M3, wr_M4, wr_M5, wr_M6, wr_M7, wr_M8, wr_M9, wr_M10, wr_M11, wr_M12, wr_M13, wr_M14, wr_M15, wr_M16, wr_M17, wr_M18, wr_M19, J_l, J_neg, J_add, J_sub, J_mul, J_lt, J_le, J_eq, J_div2, J_rem2, J_shl1, J_orp, J_or, J_and, J_shr, J_ushr, J_max, J_min, J_abs, J_b0, ↓b0_ite, ↓b0_ite2, b0_ite, bI_r, bV_r, b01_ite, ite_true, ite_false, rZ_b, K_l, J_long, M_in, rs_same, rs_ne, rs_rs, ru_same, ru_ne, ne_eq, hm0, a2, x29, a8, I10]
      rw [hm2, e3, bV_r, e5]
    · rw [gF 1 (by decide) (by decide), c3 1 (by omega) (by omega), ← hs2, rs_same, ru_same, v1]
    · rw [v1]; omega
    · rw [v1]; intro i i0 i1; omega
    · rw [gF 0 (by decide) (by decide), c3 0 (by omega) (by omega), ← hs2, rs_ne (by decide), rs_same, ru_same, v2]
    · rw [v2]; omega
    · rw [v3, v4, v5, v6]; exact ⟨d4, d5, d6, a9⟩
    · rw [v6] at l1
      rw [f7 l l0 l1, z16]
      exact (a10 l l0 l1).2.2.1
    · rw [v3, v4, v6]; exact gw
    · rw [v3, v4, v5, v6]
      exact PlV_fr a9.2 (fun o o1 o2 => gF o (by omega) (by omega)) c4
    · rw [v3, v4, v6]
      exact BdI_fr2 (fun o o1 o2 => gF o (by omega) (by omega)) c5
    · rw [v6]; exact go
    · rw [← hsF, rs_same, v7]
      rcases (show j = 0 ∨ j = 1 by omega) with rfl | rfl
      · rw [ru_ne (by decide), ru_same, ru_ne (by decide), ru_same]
      · rw [ru_same, ru_same]
    · rw [v7]
      rcases (show j = 0 ∨ j = 1 by omega) with rfl | rfl
      · rw [ru_ne (by decide), ru_same]; exact Or.inl rfl
      · rw [ru_same]; exact Or.inl rfl
    · rw [v7] at q
      rcases (show j = 0 ∨ j = 1 by omega) with rfl | rfl
      · rw [ru_ne (by decide), ru_same] at q; omega
      · rw [ru_same] at q; omega
    · rw [← hsF, rs_ne (by decide), rs_same, ru_same, v13]
    · rw [v13]; omega
    · have hh := hI.2.2.2.2.2.2.1
      rw [← hsF, rs_ne (by decide), rs_same, ru_ne (by decide), c3 66 (by omega) (by omega), g2 66 (by decide), a4 66 (by omega)]
      exact hh
    · rw [v13] at i1; omega
end LD3
