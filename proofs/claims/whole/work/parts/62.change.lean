/-! a line is changed -/
section CH
variable {z y : Nat} {g g' : XH} {w w' : Int64} {s s' s0 s1 m m' m0 : CT} {W W' W0 W1 row nm r0 : Int → Int} {wd hg mt c i j l n p v t k : Int} {a b q : Nat}
/-- the numbers of one line are the same -/
def sameN (l : Int) (W W' : Int → Int) : Prop := ∀ j, 23 * l ≤ j → j < 23 * l + 23 → W j = W' j
theorem sameN_c (h : sameN l W W') : cZ W l = cZ W' l ∧ cT W l = cT W' l ∧ cN W l = cN W' l ∧ ∀ p, 0 ≤ p → p < 10 → cX W l p = cX W' l p ∧ cY W l p = cY W' l p := ⟨h _ (by omega) (by omega), h _ (by omega) (by omega), h _ (by omega) (by omega), fun p p1 p2 => ⟨h _ (by omega) (by omega), h _ (by omega) (by omega)⟩⟩
theorem sameN_LB (h : sameN l W W') (hb : LB W l) : LB W' l := by
  obtain ⟨e1, e2, e3, e4⟩ := sameN_c h
  unfold LB at *
  rw [← e1, ← e2, ← e3]
  refine ⟨hb.1, hb.2.1, hb.2.2.1, fun p h1 h2 => ?_⟩
  rw [← (e4 p h1 (by omega)).1, ← (e4 p h1 (by omega)).2]
  exact hb.2.2.2 p h1 h2
theorem sameN_wy (h : sameN l W W') (hr : 0 ≤ t ∧ t < 9) : wy W l t = wy W' l t ∧ sp W l t = sp W' l t := by
  obtain ⟨e1, e2, e3, e4⟩ := sameN_c h
  unfold wy sp
  rw [(e4 t hr.1 (by omega)).1, (e4 t hr.1 (by omega)).2, (e4 (t + 1) (by omega) (by omega)).1, (e4 (t + 1) (by omega) (by omega)).2]
  exact ⟨rfl, rfl⟩
theorem sameN_len (h : sameN l W W') (hb : LB W l) : len W l = len W' l := by
  have := hb.1
  unfold len
  rw [← (sameN_c h).2.2.1]
  exact sm_congr fun i h1 h2 => (sameN_wy h (by omega)).2
theorem sameN_LG (h : sameN l W W') (hb : LG W l) : LG W' l := by
  have := hb.1.1
  obtain ⟨e1, e2, e3, e4⟩ := sameN_c h
  refine ⟨sameN_LB h hb.1, fun r h1 h2 => ?_, ?_⟩
  · rw [← e3] at h2
    rw [← (sameN_wy h (by omega)).1]
    exact hb.2.1 r h1 h2
  · rw [← e2, ← sameN_len h hb.1]
    exact hb.2.2
theorem sameN_LV (h : sameN l W W') (hb : cN W l ≤ 10) (hv : LV s a W l) : LV s a W' l := by
  obtain ⟨e1, e2, e3, e4⟩ := sameN_c h
  unfold LV at *
  rw [← e1, ← e2, ← e3]
  refine ⟨hv.1, hv.2.1, hv.2.2.1, fun p p1 p2 => ?_⟩
  rw [← (e4 p p1 (by omega)).1, ← (e4 p p1 (by omega)).2]
  exact hv.2.2.2 p p1 p2
theorem LbV_cl (h : ∀ c, 0 ≤ c → c < 1600 → lbl W c = lbl W' c) (hv : LbV s q W) : LbV s q W' := by
  have hr : ∀ x, x ≤ 1600 → rk W x = rk W' x := fun x hx => cnt_congr fun i i1 i2 => by rw [h i i1 (by omega)]
  unfold LbV at *
  rw [← hr 1600 (by omega)]
  refine ⟨hv.1, fun c c1 c2 c3 => ?_⟩
  rw [← h c c1 c2] at c3 ⊢
  rw [← hr c (by omega)]
  exact hv.2 c c1 c2 c3
/-- a plan whose labels may not fit is drawn, the labels refitted -/
theorem C_redraw (hg0 : GOk g z) (hH : Hdr wd hg mt n) (hL : ∀ l, 0 ≤ l → l < n → LG W l) (hlb : lblOk W) (hk : rk W 1600 ≤ 160) (hv : PlV s 6 wd hg mt n nm W) (hr : ∀ i, 0 ≤ i → i < 1600 → r0 i = -2) : ∃ s1 s2, qB_drawLines (z + 300) (z + 6) (hi z TD g w s) = rV (hi z TD g w s1) ∧ qLb_keepFitting (z + 8) (z + 300) (hi z TD g w s1) = rI (J (rk W 1600 - rk (rf (LO W n) (LN W n) (SN W n) wd hg W r0 1600).1 1600)) (hi z TD g w s2) ∧ (∀ o, (o < 8 ∨ 10 < o) → (o < 300 ∨ 307 < o) → s2 o = s o) ∧ PlanI s2 wd hg mt n nm (rf (LO W n) (LN W n) (SN W n) wd hg W r0 1600).1 6 ∧ BdI (rf (LO W n) (LN W n) (SN W n) wd hg W r0 1600).1 wd hg n (rf (LO W n) (LN W n) (SN W n) wd hg W r0 1600).2 s2 ∧ Own (LN (rf (LO W n) (LN W n) (SN W n) wd hg W r0 1600).1 n) (rf (LO W n) (LN W n) (SN W n) wd hg W r0 1600).1 (rf (LO W n) (LN W n) (SN W n) wd hg W r0 1600).2 1600 ∧ sameL W (rf (LO W n) (LN W n) (SN W n) wd hg W r0 1600).1 := by
  obtain ⟨hw, hh, hmt, hn⟩ := hH
  obtain ⟨h1, h2, h3, h4, h5, h6⟩ := hv
  have hnow : NowV s W n := ⟨h4, fun l l1 l2 => (h5 l l1 l2).1⟩
  obtain ⟨s1, e1, f1, f2, f3, f4⟩ := C_drawLines (w := w) hg0 hn hL hnow
  have hB : BdI W wd hg n r0 s1 := ⟨⟨by rw [f2.1, h1], by rw [f2.2, h2]⟩, f3, fun i i1 i2 => by rw [f4 i i1 i2, if_pos (by rw [hr i i1 i2]; omega)]⟩
  have hV : LbV s1 8 W := LbV_fr h6 (f1 8 (by omega)) (f1 9 (by omega)) (f1 10 (by omega))
  obtain ⟨s2, e2, k1, k2, k3⟩ := C_keepFitting (z := z) (g := g) (w := w) hw hh hn hL hlb hk hr hB hV
  have inv := rf_inv (lo := LO W n) (lg := LN W n) (sn := SN W n) (wd := wd) (hg := hg) (r0 := r0) hr hlb 1600 (by omega) (by omega)
  have hs : sameL W (rf (LO W n) (LN W n) (SN W n) wd hg W r0 1600).1 := fun j j1 j2 => (inv.1 j (Or.inl j2)).symm
  have hLB : ∀ l, 0 ≤ l → l < n → LB W l := fun l a b => (hL l a b).1
  have eb := boardf_c hs hn.2 hLB
  have hO : Own (LN (rf (LO W n) (LN W n) (SN W n) wd hg W r0 1600).1 n) (rf (LO W n) (LN W n) (SN W n) wd hg W r0 1600).1 (rf (LO W n) (LN W n) (SN W n) wd hg W r0 1600).2 1600 := by
    rw [← eb.2.1]
    exact inv.2.2.1
  refine ⟨s1, s2, e1, e2, fun o o1 o2 => ?_, ⟨⟨fun l a b => LG_c hs (by omega) (hL l a b), ?_, _, hO⟩, ?_⟩, ⟨?_, ?_, k3⟩, hO, hs⟩
  · rw [k1 o (by omega) (by omega) (by omega) (by omega), f1 o o2]
  · rw [← eb.1, ← eb.2.1, ← eb.2.2.1]
    exact inv.2.1
  · have f6 : ∀ o, o < 8 ∨ (10 < o ∧ o < 300) → s2 o = s o := fun o ho => by rw [k1 o (by omega) (by omega) (by omega) (by omega), f1 o (by omega)]
    refine ⟨by rw [f6 6 (by omega)]; exact h1, by rw [f6 6 (by omega)]; exact h2, by rw [f6 6 (by omega)]; exact h3, by rw [f6 6 (by omega)]; exact h4, fun l l1 l2 => ?_, k2⟩
    have x := h5 l l1 l2
    refine ⟨LV_c hs (by omega) (hLB l l1 l2).1.2 ?_, by rw [f6 _ (by omega)]; exact x.2⟩
    have x1 := x.1
    unfold LV at *
    rw [f6 _ (by omega), f6 _ (by omega), f6 _ (by omega)]
    exact x1
  · rw [k1 300 (by decide) (by decide) (by decide) (by decide)]
    exact hB.1
  · refine BdL_c hs hn.2 hLB ?_
    unfold BdL at *
    rw [k1 301 (by decide) (by decide) (by decide) (by decide), k1 302 (by decide) (by decide) (by decide) (by decide), k1 303 (by decide) (by decide) (by decide) (by decide), k1 304 (by decide) (by decide) (by decide) (by decide), k1 305 (by decide) (by decide) (by decide) (by decide), k1 307 (by decide) (by decide) (by decide) (by decide)]
    exact hB.2.1
/-- another good plan is shown -/
theorem C_show (hg0 : GOk g z) (hH : Hdr wd hg mt n) (hb : isPl TD b) (hb6 : 34 < b) (hP : PlanI s wd hg mt n nm W b) : ∃ s' row, qD_show z (z + b) (hi z TD g w s) = rV (hi z TD g w s') ∧ (∀ o, (o < 6 ∨ 34 < o) → (o < 300 ∨ 307 < o) → s' o = s o) ∧ PlanI s' wd hg mt n nm W 6 ∧ BdI W wd hg n row s' ∧ Own (LN W n) W row 1600 := by
  have hn := hH.2.2.2
  have hk := rk_160 hn hP.1.1 hP.1.2.1
  obtain ⟨s1, e1, f1, f2⟩ := C_copyPlan (z := z) (g := g) (w := w) (a := 6) (b := b) isPl_6 hb (by omega) hn (fun l a b => (hP.1.1 l a b).1) hk hP.2
  have hr : ∀ i : Int, 0 ≤ i → i < 1600 → (fun _ : Int => (-2 : Int)) i = -2 := fun _ _ _ => rfl
  obtain ⟨s2, s3, e2, e3, k1, k2, k3, k4, k5⟩ := C_redraw (w := w) (r0 := fun _ => -2) hg0 hH hP.1.1 (lblOk_G hP.1.2.1) hk f2 hr
  obtain ⟨row, hO⟩ := hP.1.2.2
  have gd := rf_good (r0 := fun _ => -2) hH.1 hH.2.1 hr hP.1.2.1 hO 1600 (by omega) (by omega)
  rw [gd] at k2 k3 k4
  refine ⟨s3, _, ?_, fun o o1 o2 => by rw [k1 o (by omega) o2, f1 o (by omega)], k2, k3, k4⟩
  unfold qD_show
  simp (disch := omega) only [↓gR_D0, ↓gR_D1, ↓gR_D2, ↓gR_D3, ↓gR_D4, ↓gR_D5, ↓gR_D6, ↓gR_D7, ↓gR_D8, ↓gR_D9, ↓gR_D10, ↓gI_D11, ↓pV_D11, ↓isO_D, ↓gI_T0, ↓pV_T0, ↓gR_T1, ↓isO_T, ↓rd_T2, ↓wr_T2, ↓gI_U0, ↓pV_U0, ↓gR_U1, ↓isO_U, ↓rd_U2, ↓wr_U2, ↓gI_Ps0, ↓pV_Ps0, ↓gI_Ps1, ↓pV_Ps1, ↓gI_Ps2, ↓pV_Ps2, ↓gI_Ps3, ↓pV_Ps3, ↓gI_Ps4, ↓pV_Ps4, ↓isO_Ps, ↓gI_N0, ↓pV_N0, ↓gI_N1, ↓pV_N1, ↓gI_N2, ↓pV_N2, ↓gI_N3, ↓pV_N3, ↓gR_N4, ↓gR_N5, ↓isO_N, ↓rd_NL, ↓gI_NB0, ↓pV_NB0, ↓gR_NB1, ↓gR_NB2, ↓isO_NB, ↓rd_NC, ↓wr_NC, ↓ln_NC, ↓rd_NP, ↓wr_NP, ↓ln_NP, ↓gI_V0, ↓pV_V0, ↓gI_V1, ↓pV_V1, ↓gI_V2, ↓pV_V2, ↓gI_V3, ↓pV_V3, ↓gR_V4, ↓gR_V5, ↓isO_V, ↓rd_VL, ↓gI_VB0, ↓pV_VB0, ↓gR_VB1, ↓gR_VB2, ↓isO_VB, ↓rd_VC, ↓wr_VC, ↓ln_VC, ↓rd_VP, ↓wr_VP, ↓ln_VP, ↓rd_SL, ↓rd_KP, ↓wr_KP, ↓gI_H0, ↓pV_H0, ↓gI_H1, ↓pV_H1, ↓gR_H2, ↓isO_H, ↓rd_HP, ↓gI_B0, ↓pV_B0, ↓gI_B1, ↓pV_B1, ↓gR_B2, ↓gR_B3, ↓gR_B4, ↓gR_B5, ↓gR_B6, ↓gR_B7, ↓gR_B8, ↓isO_B, ↓rd_B301, ↓wr_B301, ↓ln_B301, ↓rd_B302, ↓wr_B302, ↓ln_B302, ↓rd_B303, ↓wr_B303, ↓ln_B303, ↓rd_B304, ↓wr_B304, ↓ln_B304, ↓rd_B305, ↓wr_B305, ↓ln_B305, ↓rd_B306, ↓wr_B306, ↓ln_B306, ↓rd_B307, ↓wr_B307, ↓ln_B307, ↓gR_Tv, ↓isO_Tv, ↓rd_Tv9, ↓wr_Tv9, ↓ln_Tv9, pV_D11, pV_T0, rd_T2, wr_T2, pV_U0, rd_U2, wr_U2, pV_Ps0, pV_Ps1, pV_Ps2, pV_Ps3, pV_Ps4, pV_N0, pV_N1, pV_N2, pV_N3, rd_NL, pV_NB0, rd_NC, wr_NC, rd_NP, wr_NP, pV_V0, pV_V1, pV_V2, pV_V3, rd_VL, pV_VB0, rd_VC, wr_VC, rd_VP, wr_VP, rd_SL, rd_KP, wr_KP, pV_H0, pV_H1, rd_HP, pV_B0, pV_B1, rd_B301, wr_B301, rd_B302, wr_B302, rd_B303, wr_B303, rd_B304, wr_B304, rd_B305, wr_B305, rd_B306, wr_B306, rd_B307, wr_B307, rd_Tv9, wr_Tv9, J_l, J_neg, J_add, J_sub, J_mul, J_lt, J_le, J_eq, J_div2, J_rem2, J_shl1, J_orp, J_or, J_and, J_shr, J_ushr, J_max, J_min, J_abs, J_b0, ↓b0_ite, ↓b0_ite2, b0_ite, bI_r, bV_r, b01_ite, ite_true, ite_false, rZ_b, K_l, J_long, M_in, e1, e2, e3]
/-- the trial is put in place of a line: both sides -/
theorem putTrial_both (hg0 : GOk g z) (hH : Hdr (m 0 3) (m 0 4) (m 0 5) n) (hn0 : m 0 6 = n) (hl : 0 ≤ l ∧ l < n) (hP : PlanI s (m 0 3) (m 0 4) (m 0 5) n nm W0 6) (hso : ∀ j, 0 ≤ j → j < 1784 → (j < 23 * l ∨ 23 * l + 23 ≤ j) → W0 j = W1 j) (hLG : LG W1 l) (hv : LV s 310 W1 l) (hnm : s 310 0 = nm l) (h3 : m 3 = W1) : ∃ v s' m' row, qD_putTrial z (J l) (hi z TD g w s) = rI (J v) (hi z TD g w s') ∧ qM_refits y (hi y TM g' w' m) = rI (J v) (hi y TM g' w' m') ∧ (0 ≤ v ∧ v ≤ 160) ∧ (∀ o, (o < 6 ∨ 34 < o) → (o < 300 ∨ 307 < o) → s' o = s o) ∧ (∀ o, o ≠ 0 → o ≠ 3 → o ≠ 8 → o ≠ 9 → o ≠ 10 → o ≠ 11 → o ≠ 12 → o ≠ 13 → o ≠ 14 → o ≠ 15 → m' o = m o) ∧ (∀ j, j ≠ 22 → m' 0 j = m 0 j) ∧ PlanI s' (m 0 3) (m 0 4) (m 0 5) n nm (m' 3) 6 ∧ BdI (m' 3) (m 0 3) (m 0 4) n row s' ∧ Own (LN (m' 3) n) (m' 3) row 1600 ∧ sameL W1 (m' 3) ∧ (∀ c, 0 ≤ c → c < 1600 → m' 10 c = LO (m' 3) n c ∧ m' 12 c = SN (m' 3) n c ∧ m' 13 c = SM (m' 3) n c ∧ m' 14 c = LN (m' 3) n c) ∧ ∀ j, 0 ≤ j → j < 6400 → m' 11 j = LVs (m' 3) n j := by
  have hn := hH.2.2.2
  have hlb0 := lblOk_G hP.1.2.1
  have hll : ∀ c, 0 ≤ c → c < 1600 → lbl W0 c = lbl W1 c := fun c c1 c2 => hso _ (by omega) (by omega) (by omega)
  have hlb : lblOk W1 := fun c c1 c2 => by rw [← hll c c1 c2]; exact hlb0 c c1 c2
  have hk0 := rk_160 hn hP.1.1 hP.1.2.1
  have hk : rk W1 1600 ≤ 160 := by
    have : rk W0 1600 = rk W1 1600 := cnt_congr fun i i1 i2 => by rw [hll i i1 i2]
    omega
  have hsn : ∀ l', 0 ≤ l' → l' < n → l' ≠ l → sameN l' W0 W1 := fun l' a b hne j j1 j2 => hso j (by omega) (by omega) (by omega)
  have hL : ∀ l', 0 ≤ l' → l' < n → LG W1 l' := fun l' a b => by
    by_cases e : l' = l
    · rw [e]; exact hLG
    · exact sameN_LG (hsn l' a b e) (hP.1.1 l' a b)
  have hLn := isLn_now (l := l) (by omega)
  obtain ⟨q1, q2, q3, q4, q5, q6⟩ := hP.2
  have x1 := C_copyLine (z := z) (g := g) (w := w) (s := s) (a := 11 + 3 * l.toNat) (b := 310) hLn isLn_310 (by omega)
  have x2 := cpL_LV (a := 11 + 3 * l.toNat) hv hLG.1.1.2
  generalize hs1 : cpL s (11 + 3 * l.toNat) 310 = s1 at *
  have f1 : ∀ o, o < 11 + 3 * l.toNat ∨ 11 + 3 * l.toNat + 2 < o → s1 o = s o := fun o ho => by rw [← hs1, cpL_fr ho]
  have hPl : PlV s1 6 (m 0 3) (m 0 4) (m 0 5) n nm W1 := by
    refine ⟨by rw [f1 6 (by omega)]; exact q1, by rw [f1 6 (by omega)]; exact q2, by rw [f1 6 (by omega)]; exact q3, by rw [f1 6 (by omega)]; exact q4, fun l' l1 l2 => ?_, ?_⟩
    · show LV s1 (11 + 3 * l'.toNat) W1 l' ∧ s1 (11 + 3 * l'.toNat) 0 = nm l'
      by_cases e : l' = l
      · rw [e]
        exact ⟨x2.1, by rw [x2.2, hnm]⟩
      · have y1 : LV s (11 + 3 * l'.toNat) W0 l' ∧ s (11 + 3 * l'.toNat) 0 = nm l' := q5 l' l1 l2
        have y2 := sameN_LV (hsn l' l1 l2 e) (hP.1.1 l' l1 l2).1.1.2 y1.1
        unfold LV at *
        rw [f1 _ (by omega), f1 _ (by omega), f1 _ (by omega)]
        exact ⟨y2, y1.2⟩
    · exact LbV_fr (LbV_cl hll q6) (f1 8 (by omega)) (f1 9 (by omega)) (f1 10 (by omega))
  obtain ⟨m', r0, e1, r1, k1, k2, k3, k4, k5, k6, k7⟩ := M_refits (y := y) (g := g') (w := w') (m := m) hH hn0 h3 hL hlb
  obtain ⟨s2, s3, d1, d2, d3, d4, d5, d6, d7⟩ := C_redraw (w := w) hg0 hH hL hlb hk hPl r1
  rw [← k3] at d2 d4 d5 d6 d7
  have eb := boardf_c d7 hn.2 (fun l a b => (hL l a b).1)
  have hsub : rk (m' 3) 1600 ≤ rk W1 1600 := rk_sub fun x x1 x2 x3 => by
    rw [k3] at x3
    rcases (rf_inv (lo := LO W1 n) (lg := LN W1 n) (sn := SN W1 n) (wd := m 0 3) (hg := m 0 4) (r0 := r0) r1 hlb 1600 (by omega) (by omega)).2.2.2 x x1 x2 with e | e <;> omega
  have hb0 := rk_bd (W := m' 3) (c := 1600) (by omega)
  refine ⟨rk W1 1600 - rk (m' 3) 1600, s3, m', _, ?_, e1, ⟨by omega, by omega⟩, fun o o1 o2 => by rw [d3 o (by omega) o2, f1 o (by omega)], k1, k2, d4, d5, d6, d7, ?_, ?_⟩
  · unfold qD_putTrial
    simp (disch := omega) only [↓gR_D0, ↓gR_D1, ↓gR_D2, ↓gR_D3, ↓gR_D4, ↓gR_D5, ↓gR_D6, ↓gR_D7, ↓gR_D8, ↓gR_D9, ↓gR_D10, ↓gI_D11, ↓pV_D11, ↓isO_D, ↓gI_T0, ↓pV_T0, ↓gR_T1, ↓isO_T, ↓rd_T2, ↓wr_T2, ↓gI_U0, ↓pV_U0, ↓gR_U1, ↓isO_U, ↓rd_U2, ↓wr_U2, ↓gI_Ps0, ↓pV_Ps0, ↓gI_Ps1, ↓pV_Ps1, ↓gI_Ps2, ↓pV_Ps2, ↓gI_Ps3, ↓pV_Ps3, ↓gI_Ps4, ↓pV_Ps4, ↓isO_Ps, ↓gI_N0, ↓pV_N0, ↓gI_N1, ↓pV_N1, ↓gI_N2, ↓pV_N2, ↓gI_N3, ↓pV_N3, ↓gR_N4, ↓gR_N5, ↓isO_N, ↓rd_NL, ↓gI_NB0, ↓pV_NB0, ↓gR_NB1, ↓gR_NB2, ↓isO_NB, ↓rd_NC, ↓wr_NC, ↓ln_NC, ↓rd_NP, ↓wr_NP, ↓ln_NP, ↓gI_V0, ↓pV_V0, ↓gI_V1, ↓pV_V1, ↓gI_V2, ↓pV_V2, ↓gI_V3, ↓pV_V3, ↓gR_V4, ↓gR_V5, ↓isO_V, ↓rd_VL, ↓gI_VB0, ↓pV_VB0, ↓gR_VB1, ↓gR_VB2, ↓isO_VB, ↓rd_VC, ↓wr_VC, ↓ln_VC, ↓rd_VP, ↓wr_VP, ↓ln_VP, ↓rd_SL, ↓rd_KP, ↓wr_KP, ↓gI_H0, ↓pV_H0, ↓gI_H1, ↓pV_H1, ↓gR_H2, ↓isO_H, ↓rd_HP, ↓gI_B0, ↓pV_B0, ↓gI_B1, ↓pV_B1, ↓gR_B2, ↓gR_B3, ↓gR_B4, ↓gR_B5, ↓gR_B6, ↓gR_B7, ↓gR_B8, ↓isO_B, ↓rd_B301, ↓wr_B301, ↓ln_B301, ↓rd_B302, ↓wr_B302, ↓ln_B302, ↓rd_B303, ↓wr_B303, ↓ln_B303, ↓rd_B304, ↓wr_B304, ↓ln_B304, ↓rd_B305, ↓wr_B305, ↓ln_B305, ↓rd_B306, ↓wr_B306, ↓ln_B306, ↓rd_B307, ↓wr_B307, ↓ln_B307, ↓gR_Tv, ↓isO_Tv, ↓rd_Tv9, ↓wr_Tv9, ↓ln_Tv9, pV_D11, pV_T0, rd_T2, wr_T2, pV_U0, rd_U2, wr_U2, pV_Ps0, pV_Ps1, pV_Ps2, pV_Ps3, pV_Ps4, pV_N0, pV_N1, pV_N2, pV_N3, rd_NL, pV_NB0, rd_NC, wr_NC, rd_NP, wr_NP, pV_V0, pV_V1, pV_V2, pV_V3, rd_VL, pV_VB0, rd_VC, wr_VC, rd_VP, wr_VP, rd_SL, rd_KP, wr_KP, pV_H0, pV_H1, rd_HP, pV_B0, pV_B1, rd_B301, wr_B301, rd_B302, wr_B302, rd_B303, wr_B303, rd_B304, wr_B304, rd_B305, wr_B305, rd_B306, wr_B306, rd_B307, wr_B307, rd_Tv9, wr_Tv9, J_l, J_neg, J_add, J_sub, J_mul, J_lt, J_le, J_eq, J_div2, J_rem2, J_shl1, J_orp, J_or, J_and, J_shr, J_ushr, J_max, J_min, J_abs, J_b0, ↓b0_ite, ↓b0_ite2, b0_ite, bI_r, bV_r, b01_ite, ite_true, ite_false, rZ_b, K_l, J_long, M_in, isO_L hLn, x1, d1, d2]
  · intro c c1 c2
    rw [← eb.1, ← eb.2.1, ← eb.2.2.1, ← eb.2.2.2.1]
    exact k6 c c1 c2
  · intro j j1 j2
    rw [← eb.2.2.2.2.2]
    exact k7 j j1 j2
theorem SlotI_fr (h : SlotI s m) (hf : ∀ o, o = 65 ∨ (313 ≤ o ∧ o < 371) → s' o = s o) (h5 : m' 6 = m 6) (h7 : m' 7 = m 7) (h2 : m' 2 = m 2) (h3 : m' 0 3 = m 0 3) (h4 : m' 0 4 = m 0 4) (h55 : m' 0 5 = m 0 5) (h6 : m' 0 6 = m 0 6) (hn : m 0 6 ≤ 8) : SlotI s' m' := by
  intro j j1 j2
  have x := h j j1 j2
  have eS : slotW m' j = slotW m j := by unfold slotW; rw [h5]
  rw [hf 65 (Or.inl rfl), h7, h3, h4, h55, h6, h2, eS]
  exact ⟨x.1, x.2.1, fun hh => PlanI_fr hn (fun o o1 o2 => hf o (by omega)) (x.2.2 hh)⟩
/-- a change of a line, both sides -/
theorem change_both (hg0 : GOk g z) (hI : Inv s0 m0) (hl : 0 ≤ l ∧ l < m0 0 6) (hs : KeepS s0 s) (hso : ∀ j, 0 ≤ j → j < 1784 → (j < 23 * l ∨ 23 * l + 23 ≤ j) → m0 3 j = W1 j) (hLB : LB W1 l) (hv : LV s 310 W1 l) (hnm : s 310 0 = m0 2 l) (h3 : m 3 = W1) (h4 : sameW (m0 3) (m 4)) (hm : m 1 = m0 1 ∧ m 2 = m0 2 ∧ m 5 = m0 5 ∧ m 6 = m0 6 ∧ m 7 = m0 7) (hm0 : ∀ j, j ≠ 22 → m 0 j = m0 0 j) : ∃ v s' m', qD_change z (J l) (hi z TD g w s) = rI (J v) (hi z TD g w s') ∧ qM_settles y (J l) (hi y TM g' w' m) = rI (J v) (hi y TM g' w' m') ∧ Inv s' m' := by
  have hIk := hI
  obtain ⟨hT, hE, ⟨hH, hNm, hP, row, hB, hO⟩, hS, hHi⟩ := hI
  have hn := hH.2.2.2
  have hmt := hH.2.2.1
  have f6 : s 6 2 = m0 0 5 := by rw [hs 6 (by omega)]; exact hP.2.2.2.1
  have x1 := L_refusal (w := w) (c := m0 0 5) hg0 isLn_310 hv hLB (by omega)
  have y1 := M_faultOf (y := y) (g := g') (w := w') (m := m) (l := l) (by omega) (by rw [h3]; exact hLB) (by rw [hm0 5 (by decide)]; omega)
  rw [h3, hm0 5 (by decide)] at y1
  have fv := flt_val (W := W1) (l := l) (c := m0 0 5)
  unfold qD_change qM_settles
  simp (disch := first | assumption | omega) only [↓gR_D0, ↓gR_D1, ↓gR_D2, ↓gR_D3, ↓gR_D4, ↓gR_D5, ↓gR_D6, ↓gR_D7, ↓gR_D8, ↓gR_D9, ↓gR_D10, ↓gI_D11, ↓pV_D11, ↓isO_D, ↓gI_T0, ↓pV_T0, ↓gR_T1, ↓isO_T, ↓rd_T2, ↓wr_T2, ↓gI_U0, ↓pV_U0, ↓gR_U1, ↓isO_U, ↓rd_U2, ↓wr_U2, ↓gI_Ps0, ↓pV_Ps0, ↓gI_Ps1, ↓pV_Ps1, ↓gI_Ps2, ↓pV_Ps2, ↓gI_Ps3, ↓pV_Ps3, ↓gI_Ps4, ↓pV_Ps4, ↓isO_Ps, ↓gI_N0, ↓pV_N0, ↓gI_N1, ↓pV_N1, ↓gI_N2, ↓pV_N2, ↓gI_N3, ↓pV_N3, ↓gR_N4, ↓gR_N5, ↓isO_N, ↓rd_NL, ↓gI_NB0, ↓pV_NB0, ↓gR_NB1, ↓gR_NB2, ↓isO_NB, ↓rd_NC, ↓wr_NC, ↓ln_NC, ↓rd_NP, ↓wr_NP, ↓ln_NP, ↓gI_V0, ↓pV_V0, ↓gI_V1, ↓pV_V1, ↓gI_V2, ↓pV_V2, ↓gI_V3, ↓pV_V3, ↓gR_V4, ↓gR_V5, ↓isO_V, ↓rd_VL, ↓gI_VB0, ↓pV_VB0, ↓gR_VB1, ↓gR_VB2, ↓isO_VB, ↓rd_VC, ↓wr_VC, ↓ln_VC, ↓rd_VP, ↓wr_VP, ↓ln_VP, ↓rd_SL, ↓rd_KP, ↓wr_KP, ↓gI_H0, ↓pV_H0, ↓gI_H1, ↓pV_H1, ↓gR_H2, ↓isO_H, ↓rd_HP, ↓gI_B0, ↓pV_B0, ↓gI_B1, ↓pV_B1, ↓gR_B2, ↓gR_B3, ↓gR_B4, ↓gR_B5, ↓gR_B6, ↓gR_B7, ↓gR_B8, ↓isO_B, ↓rd_B301, ↓wr_B301, ↓ln_B301, ↓rd_B302, ↓wr_B302, ↓ln_B302, ↓rd_B303, ↓wr_B303, ↓ln_B303, ↓rd_B304, ↓wr_B304, ↓ln_B304, ↓rd_B305, ↓wr_B305, ↓ln_B305, ↓rd_B306, ↓wr_B306, ↓ln_B306, ↓rd_B307, ↓wr_B307, ↓ln_B307, ↓gR_Tv, ↓isO_Tv, ↓rd_Tv9, ↓wr_Tv9, ↓ln_Tv9, pV_D11, pV_T0, rd_T2, wr_T2, pV_U0, rd_U2, wr_U2, pV_Ps0, pV_Ps1, pV_Ps2, pV_Ps3, pV_Ps4, pV_N0, pV_N1, pV_N2, pV_N3, rd_NL, pV_NB0, rd_NC, wr_NC, rd_NP, wr_NP, pV_V0, pV_V1, pV_V2, pV_V3, rd_VL, pV_VB0, rd_VC, wr_VC, rd_VP, wr_VP, rd_SL, rd_KP, wr_KP, pV_H0, pV_H1, rd_HP, pV_B0, pV_B1, rd_B301, wr_B301, rd_B302, wr_B302, rd_B303, wr_B303, rd_B304, wr_B304, rd_B305, wr_B305, rd_B306, wr_B306, rd_B307, wr_B307, rd_Tv9, wr_Tv9, ↓isO_M, ↓gL_H, ↓pL_H, ↓gI_M1, ↓gI_M2, ↓gI_M3, ↓gI_M4, ↓gI_M5, ↓gI_M6, ↓gI_M13, ↓gI_M22, ↓gI_M23, ↓gI_M24, ↓gI_M25, ↓gI_M27, ↓gI_M28, ↓gI_M29, ↓gI_M30, ↓gI_M31, ↓gI_M32, ↓gI_M33, ↓gI_M34, ↓gI_M35, ↓gI_M40, ↓gI_M41, ↓gI_M42, ↓gI_M43, ↓pV_M1, ↓pV_M2, ↓pV_M3, ↓pV_M4, ↓pV_M5, ↓pV_M6, ↓pV_M13, ↓pV_M22, ↓pV_M23, ↓pV_M24, ↓pV_M25, ↓pV_M27, ↓pV_M28, ↓pV_M29, ↓pV_M30, ↓pV_M31, ↓pV_M32, ↓pV_M33, ↓pV_M34, ↓pV_M35, ↓pV_M40, ↓pV_M41, ↓pV_M42, ↓pV_M43, ↓gR_M0, ↓gR_M7, ↓gR_M8, ↓gR_M9, ↓gR_M10, ↓gR_M11, ↓gR_M12, ↓gR_M14, ↓gR_M15, ↓gR_M16, ↓gR_M17, ↓gR_M18, ↓gR_M19, ↓gR_M20, ↓gR_M21, ↓gR_M36, ↓gR_M37, ↓gR_M38, ↓gR_M39, ↓rd_M1, ↓rd_M2, ↓rd_M3, ↓rd_M4, ↓rd_M5, ↓rd_M6, ↓rd_M7, ↓rd_M8, ↓rd_M9, ↓rd_M10, ↓rd_M11, ↓rd_M12, ↓rd_M13, ↓rd_M14, ↓rd_M15, ↓rd_M16, ↓rd_M17, ↓rd_M18, ↓rd_M19, ↓wr_M1, ↓wr_M2, ↓wr_M3, ↓wr_M4, ↓wr_M5, ↓wr_M6, ↓wr_M7, ↓wr_M8, ↓wr_M9, ↓wr_M10, ↓wr_M11, ↓wr_M12, ↓wr_M13, ↓wr_M14, ↓wr_M15, ↓wr_M16, ↓wr_M17, ↓wr_M18, ↓wr_M19, pL_H, pV_M1, pV_M2, pV_M3, pV_M4, pV_M5, pV_M6, pV_M13, pV_M22, pV_M23, pV_M24, pV_M25, pV_M27, pV_M28, pV_M29, pV_M30, pV_M31, pV_M32, pV_M33, pV_M34, pV_M35, pV_M40, pV_M41, pV_M42, pV_M43, rd_M1, rd_M2, rd_M3, rd_M4, rd_M5, rd_M6, rd_M7, rd_M8, rd_M9, rd_M10, rd_M11, rd_M12, rd_M13, rd_M14, rd_M15, rd_M16, rd_M17, rd_M18, rd_M19, wr_M1, wr_M2, wr_M3, wr_M4, wr_M5, wr_M6, wr_M7, wr_M8, wr_M9, wr_M10, wr_M11, wr_M12, wr_M13, wr_M14, wr_M15, wr_M16, wr_M17, wr_M18, wr_M19, J_l, J_neg, J_add, J_sub, J_mul, J_lt, J_le, J_eq, J_div2, J_rem2, J_shl1, J_orp, J_or, J_and, J_shr, J_ushr, J_max, J_min, J_abs, J_b0, ↓b0_ite, ↓b0_ite2, b0_ite, bI_r, bV_r, b01_ite, ite_true, ite_false, rZ_b, K_l, J_long, M_in, f6, x1, y1, isO_L isLn_310]
  by_cases hf : flt W1 l (m0 0 5) < 0
  · rw [if_pos hf, if_pos hf]
    simp (disch := omega) only [↓isO_M, ↓gL_H, ↓pL_H, ↓gI_M1, ↓gI_M2, ↓gI_M3, ↓gI_M4, ↓gI_M5, ↓gI_M6, ↓gI_M13, ↓gI_M22, ↓gI_M23, ↓gI_M24, ↓gI_M25, ↓gI_M27, ↓gI_M28, ↓gI_M29, ↓gI_M30, ↓gI_M31, ↓gI_M32, ↓gI_M33, ↓gI_M34, ↓gI_M35, ↓gI_M40, ↓gI_M41, ↓gI_M42, ↓gI_M43, ↓pV_M1, ↓pV_M2, ↓pV_M3, ↓pV_M4, ↓pV_M5, ↓pV_M6, ↓pV_M13, ↓pV_M22, ↓pV_M23, ↓pV_M24, ↓pV_M25, ↓pV_M27, ↓pV_M28, ↓pV_M29, ↓pV_M30, ↓pV_M31, ↓pV_M32, ↓pV_M33, ↓pV_M34, ↓pV_M35, ↓pV_M40, ↓pV_M41, ↓pV_M42, ↓pV_M43, ↓gR_M0, ↓gR_M7, ↓gR_M8, ↓gR_M9, ↓gR_M10, ↓gR_M11, ↓gR_M12, ↓gR_M14, ↓gR_M15, ↓gR_M16, ↓gR_M17, ↓gR_M18, ↓gR_M19, ↓gR_M20, ↓gR_M21, ↓gR_M36, ↓gR_M37, ↓gR_M38, ↓gR_M39, ↓rd_M1, ↓rd_M2, ↓rd_M3, ↓rd_M4, ↓rd_M5, ↓rd_M6, ↓rd_M7, ↓rd_M8, ↓rd_M9, ↓rd_M10, ↓rd_M11, ↓rd_M12, ↓rd_M13, ↓rd_M14, ↓rd_M15, ↓rd_M16, ↓rd_M17, ↓rd_M18, ↓rd_M19, ↓wr_M1, ↓wr_M2, ↓wr_M3, ↓wr_M4, ↓wr_M5, ↓wr_M6, ↓wr_M7, ↓wr_M8, ↓wr_M9, ↓wr_M10, ↓wr_M11, ↓wr_M12, ↓wr_M13, ↓wr_M14, ↓wr_M15, ↓wr_M16, ↓wr_M17, ↓wr_M18, ↓wr_M19, pL_H, pV_M1, pV_M2, pV_M3, pV_M4, pV_M5, pV_M6, pV_M13, pV_M22, pV_M23, pV_M24, pV_M25, pV_M27, pV_M28, pV_M29, pV_M30, pV_M31, pV_M32, pV_M33, pV_M34, pV_M35, pV_M40, pV_M41, pV_M42, pV_M43, rd_M1, rd_M2, rd_M3, rd_M4, rd_M5, rd_M6, rd_M7, rd_M8, rd_M9, rd_M10, rd_M11, rd_M12, rd_M13, rd_M14, rd_M15, rd_M16, rd_M17, rd_M18, rd_M19, wr_M1, wr_M2, wr_M3, wr_M4, wr_M5, wr_M6, wr_M7, wr_M8, wr_M9, wr_M10, wr_M11, wr_M12, wr_M13, wr_M14, wr_M15, wr_M16, wr_M17, wr_M18, wr_M19, J_l, J_neg, J_add, J_sub, J_mul, J_lt, J_le, J_eq, J_div2, J_rem2, J_shl1, J_orp, J_or, J_and, J_shr, J_ushr, J_max, J_min, J_abs, J_b0, ↓b0_ite, ↓b0_ite2, b0_ite, bI_r, bV_r, b01_ite, ite_true, ite_false, rZ_b, K_l, J_long, M_in, M_comesBack]
    refine ⟨_, s, _, rfl, rfl, Inv_keep hIk ⟨⟨?_, ?_, ?_, ?_, ?_, ?_⟩, ?_, ?_, ?_, ?_, ?_, ?_, ?_⟩ hs⟩
    · rw [rs_ne (by decide)]; exact hm.1
    · rw [rs_ne (by decide)]; exact hm.2.1
    · rw [rs_same]
      intro j j1 j2
      rw [cpZ_in ⟨j1, j2⟩]
      exact h4 j j1 j2
    · rw [rs_ne (by decide)]; exact hm.2.2.1
    · rw [rs_ne (by decide)]; exact hm.2.2.2.1
    · rw [rs_ne (by decide)]; exact hm.2.2.2.2
    · rw [rs_ne (by decide)]; exact hm0 1 (by decide)
    · rw [rs_ne (by decide)]; exact hm0 2 (by decide)
    · rw [rs_ne (by decide)]; exact hm0 3 (by decide)
    · rw [rs_ne (by decide)]; exact hm0 4 (by decide)
    · rw [rs_ne (by decide)]; exact hm0 5 (by decide)
    · rw [rs_ne (by decide)]; exact hm0 6 (by decide)
    · rw [rs_ne (by decide)]; exact hm0 13 (by decide)
  · rw [if_neg hf, if_neg hf]
    have hLG := flt_0 hLB (show 0 ≤ flt W1 l (m0 0 5) by omega)
    -- the history of the class first
    have hIs := Inv_keep hIk KeepM.refl hs
    obtain ⟨hT1, hE1, ⟨hH1, hNm1, hP1, row1, hB1, hO1⟩, hS1, hHi1⟩ := hIs
    obtain ⟨s1, e1, p1, p2, p3, p4⟩ := C_push (z := z) (g := g) (w := w) hn hP1 (by have := hHi1.1; have := hHi1.2.1; omega) hHi1.2.2.1
    have fr1 : ∀ o, o ≠ 66 → (o < 68 ∨ 299 < o) → s1 o = s o := fun o o1 o2 => p1 o o1 (by have := hHi1.2.2.1; omega)
    have hv1 : LV s1 310 W1 l := by
      unfold LV at *
      rw [fr1 310 (by decide) (by decide), fr1 (310 + 1) (by decide) (by decide), fr1 (310 + 2) (by decide) (by decide)]
      exact hv
    obtain ⟨v, s2, m2, row2, q1, q2, q3, q4, q5, q6, q7, q8, q9, q10, q11, q12⟩ := putTrial_both (z := z) (y := y) (g := g) (g' := g') (w := w) (w' := w') (s := s1) (m := m) (n := m0 0 6) (nm := m0 2) (W0 := m0 3) (W1 := W1) (l := l) hg0 (by rw [hm0 3 (by decide), hm0 4 (by decide), hm0 5 (by decide)]; exact hH) (hm0 6 (by decide)) hl (by rw [hm0 3 (by decide), hm0 4 (by decide), hm0 5 (by decide)]; exact PlanI_fr hn.2 (fun o o1 o2 => fr1 o (by omega) (by omega)) hP1) hso hLG hv1 (by rw [fr1 310 (by decide) (by decide)]; exact hnm) h3
    -- the model's memory
    have s3 := M_swaps (y := y) (g := g') (w := w') (m := m2)
    generalize hm3 : rs (rs m2 3 (cpZ (m2 4) (m2 3) 1784)) 4 (cpZ (m2 3) (m2 4) 1784) = m3 at s3
    have g3 : m3 3 = cpZ (m2 4) (m2 3) 1784 := by rw [← hm3, rs_ne (by decide), rs_same]
    have g4 : m3 4 = cpZ (m2 3) (m2 4) 1784 := by rw [← hm3, rs_same]
    have gf : ∀ o, o ≠ 3 → o ≠ 4 → m3 o = m2 o := fun o o1 o2 => by rw [← hm3, rs_ne o2, rs_ne o1]
    have e24 : m2 4 = m 4 := q5 4 (by decide) (by decide) (by decide) (by decide) (by decide) (by decide) (by decide) (by decide) (by decide) (by decide)
    have m3W : sameW (m0 3) (m3 3) := fun j j1 j2 => by
      rw [g3, cpZ_in ⟨j1, j2⟩, e24]
      exact h4 j j1 j2
    have m3_0 : ∀ j, j ≠ 22 → m3 0 j = m0 0 j := fun j hj => by rw [gf 0 (by decide) (by decide), q6 j hj, hm0 j hj]
    have m3_o : ∀ o, o ≠ 0 → o ≠ 3 → o ≠ 4 → o < 8 → m3 o = m o := fun o o1 o2 o3 o4 => by rw [gf o o2 o3, q5 o o1 o2 (by omega) (by omega) (by omega) (by omega) (by omega) (by omega) (by omega) (by omega)]
    have hHi3 : HistI s m3 := HistI_fr hHi1 (fun o _ => rfl) (by rw [m3_o 5 (by decide) (by decide) (by decide) (by decide), hm.2.2.1]) (by rw [m3_o 2 (by decide) (by decide) (by decide) (by decide), hm.2.1]) (m3_0 3 (by decide)) (m3_0 4 (by decide)) (m3_0 5 (by decide)) (m3_0 6 (by decide)) (m3_0 13 (by decide)) hn.2
    have hP3 : PlanI s (m3 0 3) (m3 0 4) (m3 0 5) (m3 0 6) (m3 2) (m3 3) 6 := by
      rw [m3_0 3 (by decide), m3_0 4 (by decide), m3_0 5 (by decide), m3_0 6 (by decide), m3_o 2 (by decide) (by decide) (by decide) (by decide), hm.2.1]
      exact PlanI_c m3W hn.2 hP1
    obtain ⟨m4, b2, b3, b4, b5, b6, b7⟩ := M_remembers (y := y) (g := g') (w := w') (m := m3) (by rw [m3_0 13 (by decide)]; have := hHi1.2.1; omega)
    have hH4 : HistI s1 m4 := hist_push (by rw [m3_0 6 (by decide)]; exact hn) hHi3 p1 p2 p3 (by
      rw [m3_0 3 (by decide), m3_0 4 (by decide), m3_0 5 (by decide), m3_0 6 (by decide), m3_o 2 (by decide) (by decide) (by decide) (by decide), hm.2.1]
      exact PlanI_c m3W hn.2 p4) b3 b4 b5 b6 b7
    have b8 := M_swaps (y := y) (g := g') (w := w') (m := m4)
    simp (disch := first | assumption | omega) only [↓gR_D0, ↓gR_D1, ↓gR_D2, ↓gR_D3, ↓gR_D4, ↓gR_D5, ↓gR_D6, ↓gR_D7, ↓gR_D8, ↓gR_D9, ↓gR_D10, ↓gI_D11, ↓pV_D11, ↓isO_D, ↓gI_T0, ↓pV_T0, ↓gR_T1, ↓isO_T, ↓rd_T2, ↓wr_T2, ↓gI_U0, ↓pV_U0, ↓gR_U1, ↓isO_U, ↓rd_U2, ↓wr_U2, ↓gI_Ps0, ↓pV_Ps0, ↓gI_Ps1, ↓pV_Ps1, ↓gI_Ps2, ↓pV_Ps2, ↓gI_Ps3, ↓pV_Ps3, ↓gI_Ps4, ↓pV_Ps4, ↓isO_Ps, ↓gI_N0, ↓pV_N0, ↓gI_N1, ↓pV_N1, ↓gI_N2, ↓pV_N2, ↓gI_N3, ↓pV_N3, ↓gR_N4, ↓gR_N5, ↓isO_N, ↓rd_NL, ↓gI_NB0, ↓pV_NB0, ↓gR_NB1, ↓gR_NB2, ↓isO_NB, ↓rd_NC, ↓wr_NC, ↓ln_NC, ↓rd_NP, ↓wr_NP, ↓ln_NP, ↓gI_V0, ↓pV_V0, ↓gI_V1, ↓pV_V1, ↓gI_V2, ↓pV_V2, ↓gI_V3, ↓pV_V3, ↓gR_V4, ↓gR_V5, ↓isO_V, ↓rd_VL, ↓gI_VB0, ↓pV_VB0, ↓gR_VB1, ↓gR_VB2, ↓isO_VB, ↓rd_VC, ↓wr_VC, ↓ln_VC, ↓rd_VP, ↓wr_VP, ↓ln_VP, ↓rd_SL, ↓rd_KP, ↓wr_KP, ↓gI_H0, ↓pV_H0, ↓gI_H1, ↓pV_H1, ↓gR_H2, ↓isO_H, ↓rd_HP, ↓gI_B0, ↓pV_B0, ↓gI_B1, ↓pV_B1, ↓gR_B2, ↓gR_B3, ↓gR_B4, ↓gR_B5, ↓gR_B6, ↓gR_B7, ↓gR_B8, ↓isO_B, ↓rd_B301, ↓wr_B301, ↓ln_B301, ↓rd_B302, ↓wr_B302, ↓ln_B302, ↓rd_B303, ↓wr_B303, ↓ln_B303, ↓rd_B304, ↓wr_B304, ↓ln_B304, ↓rd_B305, ↓wr_B305, ↓ln_B305, ↓rd_B306, ↓wr_B306, ↓ln_B306, ↓rd_B307, ↓wr_B307, ↓ln_B307, ↓gR_Tv, ↓isO_Tv, ↓rd_Tv9, ↓wr_Tv9, ↓ln_Tv9, pV_D11, pV_T0, rd_T2, wr_T2, pV_U0, rd_U2, wr_U2, pV_Ps0, pV_Ps1, pV_Ps2, pV_Ps3, pV_Ps4, pV_N0, pV_N1, pV_N2, pV_N3, rd_NL, pV_NB0, rd_NC, wr_NC, rd_NP, wr_NP, pV_V0, pV_V1, pV_V2, pV_V3, rd_VL, pV_VB0, rd_VC, wr_VC, rd_VP, wr_VP, rd_SL, rd_KP, wr_KP, pV_H0, pV_H1, rd_HP, pV_B0, pV_B1, rd_B301, wr_B301, rd_B302, wr_B302, rd_B303, wr_B303, rd_B304, wr_B304, rd_B305, wr_B305, rd_B306, wr_B306, rd_B307, wr_B307, rd_Tv9, wr_Tv9, ↓isO_M, ↓gL_H, ↓pL_H, ↓gI_M1, ↓gI_M2, ↓gI_M3, ↓gI_M4, ↓gI_M5, ↓gI_M6, ↓gI_M13, ↓gI_M22, ↓gI_M23, ↓gI_M24, ↓gI_M25, ↓gI_M27, ↓gI_M28, ↓gI_M29, ↓gI_M30, ↓gI_M31, ↓gI_M32, ↓gI_M33, ↓gI_M34, ↓gI_M35, ↓gI_M40, ↓gI_M41, ↓gI_M42, ↓gI_M43, ↓pV_M1, ↓pV_M2, ↓pV_M3, ↓pV_M4, ↓pV_M5, ↓pV_M6, ↓pV_M13, ↓pV_M22, ↓pV_M23, ↓pV_M24, ↓pV_M25, ↓pV_M27, ↓pV_M28, ↓pV_M29, ↓pV_M30, ↓pV_M31, ↓pV_M32, ↓pV_M33, ↓pV_M34, ↓pV_M35, ↓pV_M40, ↓pV_M41, ↓pV_M42, ↓pV_M43, ↓gR_M0, ↓gR_M7, ↓gR_M8, ↓gR_M9, ↓gR_M10, ↓gR_M11, ↓gR_M12, ↓gR_M14, ↓gR_M15, ↓gR_M16, ↓gR_M17, ↓gR_M18, ↓gR_M19, ↓gR_M20, ↓gR_M21, ↓gR_M36, ↓gR_M37, ↓gR_M38, ↓gR_M39, ↓rd_M1, ↓rd_M2, ↓rd_M3, ↓rd_M4, ↓rd_M5, ↓rd_M6, ↓rd_M7, ↓rd_M8, ↓rd_M9, ↓rd_M10, ↓rd_M11, ↓rd_M12, ↓rd_M13, ↓rd_M14, ↓rd_M15, ↓rd_M16, ↓rd_M17, ↓rd_M18, ↓rd_M19, ↓wr_M1, ↓wr_M2, ↓wr_M3, ↓wr_M4, ↓wr_M5, ↓wr_M6, ↓wr_M7, ↓wr_M8, ↓wr_M9, ↓wr_M10, ↓wr_M11, ↓wr_M12, ↓wr_M13, ↓wr_M14, ↓wr_M15, ↓wr_M16, ↓wr_M17, ↓wr_M18, ↓wr_M19, pL_H, pV_M1, pV_M2, pV_M3, pV_M4, pV_M5, pV_M6, pV_M13, pV_M22, pV_M23, pV_M24, pV_M25, pV_M27, pV_M28, pV_M29, pV_M30, pV_M31, pV_M32, pV_M33, pV_M34, pV_M35, pV_M40, pV_M41, pV_M42, pV_M43, rd_M1, rd_M2, rd_M3, rd_M4, rd_M5, rd_M6, rd_M7, rd_M8, rd_M9, rd_M10, rd_M11, rd_M12, rd_M13, rd_M14, rd_M15, rd_M16, rd_M17, rd_M18, rd_M19, wr_M1, wr_M2, wr_M3, wr_M4, wr_M5, wr_M6, wr_M7, wr_M8, wr_M9, wr_M10, wr_M11, wr_M12, wr_M13, wr_M14, wr_M15, wr_M16, wr_M17, wr_M18, wr_M19, J_l, J_neg, J_add, J_sub, J_mul, J_lt, J_le, J_eq, J_div2, J_rem2, J_shl1, J_orp, J_or, J_and, J_shr, J_ushr, J_max, J_min, J_abs, J_b0, ↓b0_ite, ↓b0_ite2, b0_ite, bI_r, bV_r, b01_ite, ite_true, ite_false, rZ_b, K_l, J_long, M_in, e1, q1, q2, s3, b2, b8]
    refine ⟨v, s2, _, rfl, rfl, ?_⟩
    have m4_0 : ∀ j, j ≠ 22 → j ≠ 13 → m4 0 j = m0 0 j := fun j hj h13 => by rw [b4 j h13, m3_0 j hj]
    have m4_2 : m4 2 = m0 2 := by rw [b3 2 (by decide) (by decide), m3_o 2 (by decide) (by decide) (by decide) (by decide), hm.2.1]
    have hsame : sameW (m2 3) (cpZ (m4 4) (m4 3) 1784) := fun j j1 j2 => by
      rw [cpZ_in ⟨j1, j2⟩, b3 4 (by decide) (by decide), g4, cpZ_in ⟨j1, j2⟩]
    have hn2 : m0 0 6 ≤ 8 := hn.2
    rw [hm0 3 (by decide), hm0 4 (by decide)] at q7 q8
    rw [hm0 5 (by decide)] at q7
    have q4' : ∀ o, (o < 6 ∨ 34 < o) → (o < 300 ∨ 307 < o) → s2 o = s1 o := q4
    have fs : ∀ o, (o < 3 ∨ o = 65 ∨ (313 ≤ o ∧ o < 371)) → s2 o = s0 o := fun o ho => by rw [q4 o (by omega) (by omega), fr1 o (by omega) (by omega), hs o (by omega)]
    have hLB2 : ∀ l, 0 ≤ l → l < m0 0 6 → LB (m2 3) l := fun l a b => (q7.1.1 l a b).1
    have eb := boardf_c hsame.toL hn2 hLB2
    refine ⟨?_, ?_, ⟨?_, ?_, ?_, row2, ?_, ?_⟩, ?_, ?_⟩
    · unfold TapeI at *
      rw [rs_ne (by decide), rs_ne (by decide), rs_ne (by decide), rs_ne (by decide), fs 1 (by omega), fs 2 (by omega), m4_0 1 (by decide) (by decide), b3 1 (by decide) (by decide), m3_o 1 (by decide) (by decide) (by decide) (by decide), hm.1]
      exact hT
    · unfold ErrI at *
      rw [rs_ne (by decide), rs_ne (by decide), fs 0 (by omega), m4_0 2 (by decide) (by decide)]
      exact hE
    · rw [rs_ne (by decide), rs_ne (by decide), m4_0 3 (by decide) (by decide), m4_0 4 (by decide) (by decide), m4_0 5 (by decide) (by decide), m4_0 6 (by decide) (by decide)]
      exact hH
    · rw [rs_ne (by decide), rs_ne (by decide), rs_ne (by decide), rs_ne (by decide), m4_0 6 (by decide) (by decide), m4_2]
      exact hNm
    · rw [rs_ne (by decide), rs_ne (by decide), rs_ne (by decide), rs_ne (by decide), rs_ne (by decide), rs_same, m4_0 3 (by decide) (by decide), m4_0 4 (by decide) (by decide), m4_0 5 (by decide) (by decide), m4_0 6 (by decide) (by decide), m4_2]
      exact PlanI_c hsame hn2 q7
    · simp (disch := omega) only [rs_same, rs_ne, rs_rs, ru_same, ru_ne, ne_eq]
      rw [m4_0 3 (by decide) (by decide), m4_0 4 (by decide) (by decide), m4_0 6 (by decide) (by decide)]
      exact ⟨q8.1, BdL_c hsame.toL hn2 hLB2 q8.2.1, q8.2.2⟩
    · simp (disch := omega) only [rs_same, rs_ne, rs_rs, ru_same, ru_ne, ne_eq]
      rw [m4_0 6 (by decide) (by decide), ← eb.2.1]
      exact Own_c hsame q9
    · refine SlotI_fr hS (fun o ho => fs o (by omega)) ?_ ?_ ?_ ?_ ?_ ?_ ?_ hn2
      · rw [rs_ne (by decide), rs_ne (by decide), b3 6 (by decide) (by decide), m3_o 6 (by decide) (by decide) (by decide) (by decide), hm.2.2.2.1]
      · rw [rs_ne (by decide), rs_ne (by decide), b3 7 (by decide) (by decide), m3_o 7 (by decide) (by decide) (by decide) (by decide), hm.2.2.2.2]
      · rw [rs_ne (by decide), rs_ne (by decide), m4_2]
      · rw [rs_ne (by decide), rs_ne (by decide), m4_0 3 (by decide) (by decide)]
      · rw [rs_ne (by decide), rs_ne (by decide), m4_0 4 (by decide) (by decide)]
      · rw [rs_ne (by decide), rs_ne (by decide), m4_0 5 (by decide) (by decide)]
      · rw [rs_ne (by decide), rs_ne (by decide), m4_0 6 (by decide) (by decide)]
    · refine HistI_fr hH4 (fun o ho => q4 o (by omega) (by omega)) ?_ ?_ ?_ ?_ ?_ ?_ ?_ (by rw [m4_0 6 (by decide) (by decide)]; exact hn2) <;> rw [rs_ne (by decide), rs_ne (by decide)]
end CH
