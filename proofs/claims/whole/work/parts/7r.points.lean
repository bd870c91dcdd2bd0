/-! points of a line that is read -/
section PN
variable {z y : Nat} {g g' : XH} {w w' : Int64} {s s' s0 s1 s2 m m' m0 m1 m2 : CT} {G W W' V W1 row row' r0 nm lo lg sn f : Int → Int} {wd hg mt c i j l n p v t k x xx yy N q o to : Int} {a b : Nat} {h : XH}
variable {k r u e d lw up st nv zv tv : Int} {w1 w2 w3 : Int64}
theorem ptW_cx (hp : 0 ≤ k ∧ k < 10) (hi0 : i ≠ k) : cX (ptW W l k xx yy) l i = cX W l i ∧ cY (ptW W l k xx yy) l i = cY W l i := by
  have := ptW_p (W := W) (l := l) (p := k) (i := i) (xx := xx) (yy := yy) hp
  rw [if_neg hi0, if_neg hi0] at this
  exact this
theorem ptW_ck (hp : 0 ≤ k ∧ k < 10) : cX (ptW W l k xx yy) l k = xx ∧ cY (ptW W l k xx yy) l k = yy := by
  have := ptW_p (W := W) (l := l) (p := k) (i := k) (xx := xx) (yy := yy) hp
  rw [if_pos rfl, if_pos rfl] at this
  exact this
theorem ptW_wy (hp : 0 ≤ k ∧ k < 10) (h1 : i ≠ k) (h2 : i + 1 ≠ k) : wy (ptW W l k xx yy) l i = wy W l i ∧ sp (ptW W l k xx yy) l i = sp W l i := by
  have a := ptW_cx (W := W) (l := l) (xx := xx) (yy := yy) hp h1
  have b := ptW_cx (W := W) (l := l) (xx := xx) (yy := yy) hp h2
  unfold wy sp
  rw [a.1, a.2, b.1, b.2]
  exact ⟨rfl, rfl⟩
theorem ptW_bad (hp : 0 ≤ k ∧ k < 10) (h2 : i + 1 < k) : bad (ptW W l k xx yy) l c i ↔ bad W l c i := by
  unfold bad
  rw [(ptW_wy (W := W) (l := l) (xx := xx) (yy := yy) hp (show i ≠ k by omega) (by omega)).1, (ptW_wy (W := W) (l := l) (xx := xx) (yy := yy) (i := i - 1) hp (by omega) (by omega)).1]
theorem ptW_pr (hp : 0 ≤ k ∧ k < 10) : pr (ptW W l k xx yy) l (k - 1) = pr W l (k - 1) := by
  unfold pr
  exact sm_congr fun i i0 i1 => (ptW_wy hp (by omega) (by omega)).2
/-- a world with a line's numbers set -/
def Wp (W : Int → Int) (l k zv tv : Int) : Int → Int := ru (ru (ru W (23 * l + 0) zv) (23 * l + 1) tv) (23 * l + 2) k
theorem Wp_x (hi0 : 0 ≤ i) : cX (Wp W l k zv tv) l i = cX W l i ∧ cY (Wp W l k zv tv) l i = cY W l i := by
  unfold Wp cX cY
  rw [ru_ne (by omega), ru_ne (by omega), ru_ne (by omega), ru_ne (by omega), ru_ne (by omega), ru_ne (by omega)]
  exact ⟨rfl, rfl⟩
theorem Wp_n : cN (Wp W l k zv tv) l = k ∧ cT (Wp W l k zv tv) l = tv ∧ cZ (Wp W l k zv tv) l = zv := by
  unfold Wp cN cT cZ
  refine ⟨ru_same, ?_, ?_⟩
  · rw [ru_ne (by omega), ru_same]
  · rw [ru_ne (by omega), ru_ne (by omega), ru_same]
theorem Wp_wy (hi0 : 0 ≤ i) : wy (Wp W l k zv tv) l i = wy W l i ∧ sp (Wp W l k zv tv) l i = sp W l i := by
  unfold wy sp
  rw [(Wp_x (W := W) (l := l) (k := k) (zv := zv) (tv := tv) hi0).1, (Wp_x (W := W) (l := l) (k := k) (zv := zv) (tv := tv) hi0).2, (Wp_x (W := W) (l := l) (k := k) (zv := zv) (tv := tv) (i := i + 1) (by omega)).1, (Wp_x (W := W) (l := l) (k := k) (zv := zv) (tv := tv) (i := i + 1) (by omega)).2]
  exact ⟨rfl, rfl⟩
theorem Wp_bad (hi0 : 0 ≤ i) : bad (Wp W l k zv tv) l c i ↔ bad W l c i := by
  unfold bad
  rw [(Wp_wy hi0).1]
  by_cases h : 1 ≤ i
  · rw [(Wp_wy (W := W) (l := l) (k := k) (zv := zv) (tv := tv) (i := i - 1) (by omega)).1]
  · constructor
    · rintro (q | q)
      · exact Or.inl q
      · omega
    · rintro (q | q)
      · exact Or.inl q
      · omega
theorem Wp_pr : pr (Wp W l k zv tv) l i = pr W l i := by
  unfold pr
  exact sm_congr fun i i0 i1 => (Wp_wy i0).2
def LnI (s m : CT) (l : Int) : Prop := ∀ i, 0 ≤ i → i < l → LV s (40 + 3 * i.toNat) (m 17) i ∧ s (40 + 3 * i.toNat) 0 = m 16 i ∧ NmOk (m 16 i) ∧ LG (m 17) i
def PtJ (s m : CT) (l k nv zv tv : Int) : Prop := (s (40 + 3 * l.toNat) 0 = nv ∧ s (40 + 3 * l.toNat) 1 = k ∧ s (40 + 3 * l.toNat) 2 = tv ∧ s (40 + 3 * l.toNat) 3 = zv) ∧ (∀ p, 0 ≤ p → p < k → (s (40 + 3 * l.toNat + 1) p = cX (m 17) l p ∧ s (40 + 3 * l.toNat + 2) p = cY (m 17) l p) ∧ (0 ≤ cX (m 17) l p ∧ cX (m 17) l p < 40) ∧ 0 ≤ cY (m 17) l p ∧ cY (m 17) l p < 40) ∧ (∀ r, 0 ≤ r → r < k - 1 → ¬bad (m 17) l (m 0 32) r) ∧ (m 0 34 = k ∧ m 0 35 = pr (m 17) l (k - 1)) ∧ (1 ≤ zv ∧ zv ≤ 10) ∧ (2 ≤ tv ∧ tv ≤ 20) ∧ NmOk nv
def PB (s m : CT) (l k : Int) : Prop := HdS s m ∧ s 35 3 = l ∧ m 0 33 = l ∧ (0 ≤ l ∧ l < 8) ∧ 0 ≤ k ∧ k ≤ 10
theorem HdS_f (h : HdS s m) (hs : ∀ o, o ≠ 5 → s' o = s o) (hm : FM m m') : HdS s' m' := by
  unfold HdS at *
  rw [hs 35 (by decide), hs 37 (by decide), hm.2 30 (by decide) (by decide) (by decide) (by decide) (by decide), hm.2 31 (by decide) (by decide) (by decide) (by decide) (by decide), hm.2 32 (by decide) (by decide) (by decide) (by decide) (by decide)]
  exact h
theorem PB_f (h : PB s m l k) (hs : ∀ o, o ≠ 5 → s' o = s o) (hm : FM m m') : PB s' m' l k := by
  obtain ⟨h1, h2, h3, h4⟩ := h
  exact ⟨HdS_f h1 hs hm, by rw [hs 35 (by decide)]; exact h2, by rw [hm.2 33 (by decide) (by decide) (by decide) (by decide) (by decide)]; exact h3, h4⟩
theorem LnI_f (h : LnI s m l) (hs : ∀ o, o ≠ 5 → s' o = s o) (hm : FM m m') : LnI s' m' l := fun i i0 i1 => by
  have := h i i0 i1
  unfold LV at *
  rw [hs _ (by omega), hs _ (by omega), hs _ (by omega), hm.1 17 (by decide), hm.1 16 (by decide)]
  exact this
theorem PtJ_f (h : PtJ s m l k nv zv tv) (hs : ∀ o, o ≠ 5 → s' o = s o) (hm : FM m m') : PtJ s' m' l k nv zv tv := by
  unfold PtJ at *
  rw [hs (40 + 3 * l.toNat) (by omega), hs (40 + 3 * l.toNat + 1) (by omega), hs (40 + 3 * l.toNat + 2) (by omega), hm.1 17 (by decide), hm.2 32 (by decide) (by decide) (by decide) (by decide) (by decide), hm.2 34 (by decide) (by decide) (by decide) (by decide) (by decide), hm.2 35 (by decide) (by decide) (by decide) (by decide) (by decide)]
  exact h
def insS (s : CT) (a : Nat) (k xx yy : Int) : CT := rs (rs (rs s (a + 1) (ru (s (a + 1)) k xx)) (a + 2) (ru (s (a + 2)) k yy)) a (ru (s a) 1 (k + 1))
theorem C_insertEnd (ha : isLn TD a) (h1 : s a 1 = k) (hk : 0 ≤ k ∧ k < 10) : qLn_insertPoint (z + a) (J k) (J xx) (J yy) (hi z TD g w s) = rV (hi z TD g w (insS s a k xx yy)) := by
  have e28 : qLn_insertPoint_28 LF (z + a) (J k) (J xx) (J yy) (J k) (hi z TD g w s) = rV (hi z TD g w (insS s a k xx yy)) := by
    refine loopI (S := Unit) (fun N _ => qLn_insertPoint_28 N (z + a) (J k) (J xx) (J yy) (J k) (hi z TD g w s)) (fun X => X = rV (hi z TD g w (insS s a k xx yy))) (fun _ => True) (fun _ => 0) (fun _ _ => by omega) (fun N _ _ _ => ?_) () trivial (by omega)
    show qLn_insertPoint_28_b (qLn_insertPoint_28 N) (z + a) (J k) (J xx) (J yy) (J k) (hi z TD g w s) = _
    unfold qLn_insertPoint_28_b qLn_insertPoint_72 insS
    simp (disch := first | assumption | omega) only [↓gR_D0, ↓gR_D1, ↓gR_D2, ↓gR_D3, ↓gR_D4, ↓gR_D5, ↓gR_D6, ↓gR_D7, ↓gR_D8, ↓gR_D9, ↓gR_D10, ↓gI_D11, ↓pV_D11, ↓isO_D, ↓gI_T0, ↓pV_T0, ↓gR_T1, ↓isO_T, ↓rd_T2, ↓wr_T2, ↓gI_U0, ↓pV_U0, ↓gR_U1, ↓isO_U, ↓rd_U2, ↓wr_U2, ↓gI_Ps0, ↓pV_Ps0, ↓gI_Ps1, ↓pV_Ps1, ↓gI_Ps2, ↓pV_Ps2, ↓gI_Ps3, ↓pV_Ps3, ↓gI_Ps4, ↓pV_Ps4, ↓isO_Ps, ↓gI_N0, ↓pV_N0, ↓gI_N1, ↓pV_N1, ↓gI_N2, ↓pV_N2, ↓gI_N3, ↓pV_N3, ↓gR_N4, ↓gR_N5, ↓isO_N, ↓rd_NL, ↓gI_NB0, ↓pV_NB0, ↓gR_NB1, ↓gR_NB2, ↓isO_NB, ↓rd_NC, ↓wr_NC, ↓ln_NC, ↓rd_NP, ↓wr_NP, ↓ln_NP, ↓gI_V0, ↓pV_V0, ↓gI_V1, ↓pV_V1, ↓gI_V2, ↓pV_V2, ↓gI_V3, ↓pV_V3, ↓gR_V4, ↓gR_V5, ↓isO_V, ↓rd_VL, ↓gI_VB0, ↓pV_VB0, ↓gR_VB1, ↓gR_VB2, ↓isO_VB, ↓rd_VC, ↓wr_VC, ↓ln_VC, ↓rd_VP, ↓wr_VP, ↓ln_VP, ↓rd_SL, ↓rd_KP, ↓wr_KP, ↓gI_H0, ↓pV_H0, ↓gI_H1, ↓pV_H1, ↓gR_H2, ↓isO_H, ↓rd_HP, ↓gI_B0, ↓pV_B0, ↓gI_B1, ↓pV_B1, ↓gR_B2, ↓gR_B3, ↓gR_B4, ↓gR_B5, ↓gR_B6, ↓gR_B7, ↓gR_B8, ↓isO_B, ↓rd_B301, ↓wr_B301, ↓ln_B301, ↓rd_B302, ↓wr_B302, ↓ln_B302, ↓rd_B303, ↓wr_B303, ↓ln_B303, ↓rd_B304, ↓wr_B304, ↓ln_B304, ↓rd_B305, ↓wr_B305, ↓ln_B305, ↓rd_B306, ↓wr_B306, ↓ln_B306, ↓rd_B307, ↓wr_B307, ↓ln_B307, ↓gR_Tv, ↓isO_Tv, ↓rd_Tv9, ↓wr_Tv9, ↓ln_Tv9, pV_D11, pV_T0, rd_T2, wr_T2, pV_U0, rd_U2, wr_U2, pV_Ps0, pV_Ps1, pV_Ps2, pV_Ps3, pV_Ps4, pV_N0, pV_N1, pV_N2, pV_N3, rd_NL, pV_NB0, rd_NC, wr_NC, rd_NP, wr_NP, pV_V0, pV_V1, pV_V2, pV_V3, rd_VL, pV_VB0, rd_VC, wr_VC, rd_VP, wr_VP, rd_SL, rd_KP, wr_KP, pV_H0, pV_H1, rd_HP, pV_B0, pV_B1, rd_B301, wr_B301, rd_B302, wr_B302, rd_B303, wr_B303, rd_B304, wr_B304, rd_B305, wr_B305, rd_B306, wr_B306, rd_B307, wr_B307, rd_Tv9, wr_Tv9, ↓isO_L, ↓gI_L0, ↓pV_L0, ↓gI_L1, ↓pV_L1, ↓gI_L2, ↓pV_L2, ↓gI_L3, ↓pV_L3, ↓gR_L4, ↓rd_L4, ↓wr_L4, ↓gR_L5, ↓rd_L5, ↓wr_L5, pV_L0, pV_L1, pV_L2, pV_L3, rd_L4, wr_L4, rd_L5, wr_L5, J_l, J_neg, J_add, J_sub, J_mul, J_lt, J_le, J_eq, J_div2, J_rem2, J_shl1, J_orp, J_or, J_and, J_shr, J_ushr, J_max, J_min, J_abs, J_b0, ↓b0_ite, ↓b0_ite2, b0_ite, bI_r, bV_r, b01_ite, ite_true, ite_false, rZ_b, K_l, J_long, M_in, rs_same, rs_ne, rs_rs, ru_same, ru_ne, ne_eq, h1]
    rw [if_neg (show ¬k < k by omega)]
  unfold qLn_insertPoint
  simp (disch := first | assumption | omega) only [↓gR_D0, ↓gR_D1, ↓gR_D2, ↓gR_D3, ↓gR_D4, ↓gR_D5, ↓gR_D6, ↓gR_D7, ↓gR_D8, ↓gR_D9, ↓gR_D10, ↓gI_D11, ↓pV_D11, ↓isO_D, ↓gI_T0, ↓pV_T0, ↓gR_T1, ↓isO_T, ↓rd_T2, ↓wr_T2, ↓gI_U0, ↓pV_U0, ↓gR_U1, ↓isO_U, ↓rd_U2, ↓wr_U2, ↓gI_Ps0, ↓pV_Ps0, ↓gI_Ps1, ↓pV_Ps1, ↓gI_Ps2, ↓pV_Ps2, ↓gI_Ps3, ↓pV_Ps3, ↓gI_Ps4, ↓pV_Ps4, ↓isO_Ps, ↓gI_N0, ↓pV_N0, ↓gI_N1, ↓pV_N1, ↓gI_N2, ↓pV_N2, ↓gI_N3, ↓pV_N3, ↓gR_N4, ↓gR_N5, ↓isO_N, ↓rd_NL, ↓gI_NB0, ↓pV_NB0, ↓gR_NB1, ↓gR_NB2, ↓isO_NB, ↓rd_NC, ↓wr_NC, ↓ln_NC, ↓rd_NP, ↓wr_NP, ↓ln_NP, ↓gI_V0, ↓pV_V0, ↓gI_V1, ↓pV_V1, ↓gI_V2, ↓pV_V2, ↓gI_V3, ↓pV_V3, ↓gR_V4, ↓gR_V5, ↓isO_V, ↓rd_VL, ↓gI_VB0, ↓pV_VB0, ↓gR_VB1, ↓gR_VB2, ↓isO_VB, ↓rd_VC, ↓wr_VC, ↓ln_VC, ↓rd_VP, ↓wr_VP, ↓ln_VP, ↓rd_SL, ↓rd_KP, ↓wr_KP, ↓gI_H0, ↓pV_H0, ↓gI_H1, ↓pV_H1, ↓gR_H2, ↓isO_H, ↓rd_HP, ↓gI_B0, ↓pV_B0, ↓gI_B1, ↓pV_B1, ↓gR_B2, ↓gR_B3, ↓gR_B4, ↓gR_B5, ↓gR_B6, ↓gR_B7, ↓gR_B8, ↓isO_B, ↓rd_B301, ↓wr_B301, ↓ln_B301, ↓rd_B302, ↓wr_B302, ↓ln_B302, ↓rd_B303, ↓wr_B303, ↓ln_B303, ↓rd_B304, ↓wr_B304, ↓ln_B304, ↓rd_B305, ↓wr_B305, ↓ln_B305, ↓rd_B306, ↓wr_B306, ↓ln_B306, ↓rd_B307, ↓wr_B307, ↓ln_B307, ↓gR_Tv, ↓isO_Tv, ↓rd_Tv9, ↓wr_Tv9, ↓ln_Tv9, pV_D11, pV_T0, rd_T2, wr_T2, pV_U0, rd_U2, wr_U2, pV_Ps0, pV_Ps1, pV_Ps2, pV_Ps3, pV_Ps4, pV_N0, pV_N1, pV_N2, pV_N3, rd_NL, pV_NB0, rd_NC, wr_NC, rd_NP, wr_NP, pV_V0, pV_V1, pV_V2, pV_V3, rd_VL, pV_VB0, rd_VC, wr_VC, rd_VP, wr_VP, rd_SL, rd_KP, wr_KP, pV_H0, pV_H1, rd_HP, pV_B0, pV_B1, rd_B301, wr_B301, rd_B302, wr_B302, rd_B303, wr_B303, rd_B304, wr_B304, rd_B305, wr_B305, rd_B306, wr_B306, rd_B307, wr_B307, rd_Tv9, wr_Tv9, ↓isO_L, ↓gI_L0, ↓pV_L0, ↓gI_L1, ↓pV_L1, ↓gI_L2, ↓pV_L2, ↓gI_L3, ↓pV_L3, ↓gR_L4, ↓rd_L4, ↓wr_L4, ↓gR_L5, ↓rd_L5, ↓wr_L5, pV_L0, pV_L1, pV_L2, pV_L3, rd_L4, wr_L4, rd_L5, wr_L5, J_l, J_neg, J_add, J_sub, J_mul, J_lt, J_le, J_eq, J_div2, J_rem2, J_shl1, J_orp, J_or, J_and, J_shr, J_ushr, J_max, J_min, J_abs, J_b0, ↓b0_ite, ↓b0_ite2, b0_ite, bI_r, bV_r, b01_ite, ite_true, ite_false, rZ_b, K_l, J_long, M_in, h1, e28]
  rw [if_neg (show ¬k < 0 by omega), if_neg (show ¬k < k by omega), if_pos hk.2]
theorem C_crooked1 (ha : isLn TD a) (h1 : s a 1 = 1) {mtv : Int32} : qLn_isCrooked (z + a) mtv (hi z TD g w s) = rI (J 0) (hi z TD g w s) := by
  unfold qLn_isCrooked
  refine loopI (S := Unit) (fun N _ => qLn_isCrooked_2 N (z + a) mtv (0 : Int32) (hi z TD g w s)) (fun X => X = rI (J 0) (hi z TD g w s)) (fun _ => True) (fun _ => 0) (fun _ _ => by omega) (fun N _ _ _ => ?_) () trivial (by omega)
  show qLn_isCrooked_2_b (qLn_isCrooked_2 N) (z + a) mtv (0 : Int32) (hi z TD g w s) = _
  unfold qLn_isCrooked_2_b
  simp (disch := first | assumption | omega) only [↓gR_D0, ↓gR_D1, ↓gR_D2, ↓gR_D3, ↓gR_D4, ↓gR_D5, ↓gR_D6, ↓gR_D7, ↓gR_D8, ↓gR_D9, ↓gR_D10, ↓gI_D11, ↓pV_D11, ↓isO_D, ↓gI_T0, ↓pV_T0, ↓gR_T1, ↓isO_T, ↓rd_T2, ↓wr_T2, ↓gI_U0, ↓pV_U0, ↓gR_U1, ↓isO_U, ↓rd_U2, ↓wr_U2, ↓gI_Ps0, ↓pV_Ps0, ↓gI_Ps1, ↓pV_Ps1, ↓gI_Ps2, ↓pV_Ps2, ↓gI_Ps3, ↓pV_Ps3, ↓gI_Ps4, ↓pV_Ps4, ↓isO_Ps, ↓gI_N0, ↓pV_N0, ↓gI_N1, ↓pV_N1, ↓gI_N2, ↓pV_N2, ↓gI_N3, ↓pV_N3, ↓gR_N4, ↓gR_N5, ↓isO_N, ↓rd_NL, ↓gI_NB0, ↓pV_NB0, ↓gR_NB1, ↓gR_NB2, ↓isO_NB, ↓rd_NC, ↓wr_NC, ↓ln_NC, ↓rd_NP, ↓wr_NP, ↓ln_NP, ↓gI_V0, ↓pV_V0, ↓gI_V1, ↓pV_V1, ↓gI_V2, ↓pV_V2, ↓gI_V3, ↓pV_V3, ↓gR_V4, ↓gR_V5, ↓isO_V, ↓rd_VL, ↓gI_VB0, ↓pV_VB0, ↓gR_VB1, ↓gR_VB2, ↓isO_VB, ↓rd_VC, ↓wr_VC, ↓ln_VC, ↓rd_VP, ↓wr_VP, ↓ln_VP, ↓rd_SL, ↓rd_KP, ↓wr_KP, ↓gI_H0, ↓pV_H0, ↓gI_H1, ↓pV_H1, ↓gR_H2, ↓isO_H, ↓rd_HP, ↓gI_B0, ↓pV_B0, ↓gI_B1, ↓pV_B1, ↓gR_B2, ↓gR_B3, ↓gR_B4, ↓gR_B5, ↓gR_B6, ↓gR_B7, ↓gR_B8, ↓isO_B, ↓rd_B301, ↓wr_B301, ↓ln_B301, ↓rd_B302, ↓wr_B302, ↓ln_B302, ↓rd_B303, ↓wr_B303, ↓ln_B303, ↓rd_B304, ↓wr_B304, ↓ln_B304, ↓rd_B305, ↓wr_B305, ↓ln_B305, ↓rd_B306, ↓wr_B306, ↓ln_B306, ↓rd_B307, ↓wr_B307, ↓ln_B307, ↓gR_Tv, ↓isO_Tv, ↓rd_Tv9, ↓wr_Tv9, ↓ln_Tv9, pV_D11, pV_T0, rd_T2, wr_T2, pV_U0, rd_U2, wr_U2, pV_Ps0, pV_Ps1, pV_Ps2, pV_Ps3, pV_Ps4, pV_N0, pV_N1, pV_N2, pV_N3, rd_NL, pV_NB0, rd_NC, wr_NC, rd_NP, wr_NP, pV_V0, pV_V1, pV_V2, pV_V3, rd_VL, pV_VB0, rd_VC, wr_VC, rd_VP, wr_VP, rd_SL, rd_KP, wr_KP, pV_H0, pV_H1, rd_HP, pV_B0, pV_B1, rd_B301, wr_B301, rd_B302, wr_B302, rd_B303, wr_B303, rd_B304, wr_B304, rd_B305, wr_B305, rd_B306, wr_B306, rd_B307, wr_B307, rd_Tv9, wr_Tv9, ↓isO_L, ↓gI_L0, ↓pV_L0, ↓gI_L1, ↓pV_L1, ↓gI_L2, ↓pV_L2, ↓gI_L3, ↓pV_L3, ↓gR_L4, ↓rd_L4, ↓wr_L4, ↓gR_L5, ↓rd_L5, ↓wr_L5, pV_L0, pV_L1, pV_L2, pV_L3, rd_L4, wr_L4, rd_L5, wr_L5, J_l, J_neg, J_add, J_sub, J_mul, J_lt, J_le, J_eq, J_div2, J_rem2, J_shl1, J_orp, J_or, J_and, J_shr, J_ushr, J_max, J_min, J_abs, J_b0, ↓b0_ite, ↓b0_ite2, b0_ite, bI_r, bV_r, b01_ite, ite_true, ite_false, rZ_b, K_l, J_long, M_in, h1]
  rw [if_neg (show ¬(0 : Int) < 1 - 1 by omega)]
/-- the model asks whether a line can run on -/
theorem M_newX (h : m 0 33 = l) (hl : 0 ≤ l ∧ l < 8) (hp : 0 ≤ p ∧ p < 10) : qM_newX y (J p) (hi y TM g w m) = rI (J (cX (m 17) l p)) (hi y TM g w m) := by
  unfold qM_newX qM_newAt
  simp (disch := omega) only [↓isO_M, ↓gL_H, ↓pL_H, ↓gI_M1, ↓gI_M2, ↓gI_M3, ↓gI_M4, ↓gI_M5, ↓gI_M6, ↓gI_M13, ↓gI_M22, ↓gI_M23, ↓gI_M24, ↓gI_M25, ↓gI_M27, ↓gI_M28, ↓gI_M29, ↓gI_M30, ↓gI_M31, ↓gI_M32, ↓gI_M33, ↓gI_M34, ↓gI_M35, ↓gI_M40, ↓gI_M41, ↓gI_M42, ↓gI_M43, ↓pV_M1, ↓pV_M2, ↓pV_M3, ↓pV_M4, ↓pV_M5, ↓pV_M6, ↓pV_M13, ↓pV_M22, ↓pV_M23, ↓pV_M24, ↓pV_M25, ↓pV_M27, ↓pV_M28, ↓pV_M29, ↓pV_M30, ↓pV_M31, ↓pV_M32, ↓pV_M33, ↓pV_M34, ↓pV_M35, ↓pV_M40, ↓pV_M41, ↓pV_M42, ↓pV_M43, ↓gR_M0, ↓gR_M7, ↓gR_M8, ↓gR_M9, ↓gR_M10, ↓gR_M11, ↓gR_M12, ↓gR_M14, ↓gR_M15, ↓gR_M16, ↓gR_M17, ↓gR_M18, ↓gR_M19, ↓gR_M20, ↓gR_M21, ↓gR_M36, ↓gR_M37, ↓gR_M38, ↓gR_M39, ↓rd_M1, ↓rd_M2, ↓rd_M3, ↓rd_M4, ↓rd_M5, ↓rd_M6, ↓rd_M7, ↓rd_M8, ↓rd_M9, ↓rd_M10, ↓rd_M11, ↓rd_M12, ↓rd_M13, ↓rd_M14, ↓rd_M15, ↓rd_M16, ↓rd_M17, ↓rd_M18, ↓rd_M19, ↓wr_M1, ↓wr_M2, ↓wr_M3, ↓wr_M4, ↓wr_M5, ↓wr_M6, ↓wr_M7, ↓wr_M8, ↓wr_M9, ↓wr_M10, ↓wr_M11, ↓wr_M12, ↓wr_M13, ↓wr_M14, ↓wr_M15, ↓wr_M16, ↓wr_M17, ↓wr_M18, ↓wr_M19, pL_H, pV_M1, pV_M2, pV_M3, pV_M4, pV_M5, pV_M6, pV_M13, pV_M22, pV_M23, pV_M24, pV_M25, pV_M27, pV_M28, pV_M29, pV_M30, pV_M31, pV_M32, pV_M33, pV_M34, pV_M35, pV_M40, pV_M41, pV_M42, pV_M43, rd_M1, rd_M2, rd_M3, rd_M4, rd_M5, rd_M6, rd_M7, rd_M8, rd_M9, rd_M10, rd_M11, rd_M12, rd_M13, rd_M14, rd_M15, rd_M16, rd_M17, rd_M18, rd_M19, wr_M1, wr_M2, wr_M3, wr_M4, wr_M5, wr_M6, wr_M7, wr_M8, wr_M9, wr_M10, wr_M11, wr_M12, wr_M13, wr_M14, wr_M15, wr_M16, wr_M17, wr_M18, wr_M19, J_l, J_neg, J_add, J_sub, J_mul, J_lt, J_le, J_eq, J_div2, J_rem2, J_shl1, J_orp, J_or, J_and, J_shr, J_ushr, J_max, J_min, J_abs, J_b0, ↓b0_ite, ↓b0_ite2, b0_ite, bI_r, bV_r, b01_ite, ite_true, ite_false, rZ_b, K_l, J_long, M_in, h]
  rfl
theorem M_newY (h : m 0 33 = l) (hl : 0 ≤ l ∧ l < 8) (hp : 0 ≤ p ∧ p < 10) : qM_newY y (J p) (hi y TM g w m) = rI (J (cY (m 17) l p)) (hi y TM g w m) := by
  unfold qM_newY qM_newAt
  simp (disch := omega) only [↓isO_M, ↓gL_H, ↓pL_H, ↓gI_M1, ↓gI_M2, ↓gI_M3, ↓gI_M4, ↓gI_M5, ↓gI_M6, ↓gI_M13, ↓gI_M22, ↓gI_M23, ↓gI_M24, ↓gI_M25, ↓gI_M27, ↓gI_M28, ↓gI_M29, ↓gI_M30, ↓gI_M31, ↓gI_M32, ↓gI_M33, ↓gI_M34, ↓gI_M35, ↓gI_M40, ↓gI_M41, ↓gI_M42, ↓gI_M43, ↓pV_M1, ↓pV_M2, ↓pV_M3, ↓pV_M4, ↓pV_M5, ↓pV_M6, ↓pV_M13, ↓pV_M22, ↓pV_M23, ↓pV_M24, ↓pV_M25, ↓pV_M27, ↓pV_M28, ↓pV_M29, ↓pV_M30, ↓pV_M31, ↓pV_M32, ↓pV_M33, ↓pV_M34, ↓pV_M35, ↓pV_M40, ↓pV_M41, ↓pV_M42, ↓pV_M43, ↓gR_M0, ↓gR_M7, ↓gR_M8, ↓gR_M9, ↓gR_M10, ↓gR_M11, ↓gR_M12, ↓gR_M14, ↓gR_M15, ↓gR_M16, ↓gR_M17, ↓gR_M18, ↓gR_M19, ↓gR_M20, ↓gR_M21, ↓gR_M36, ↓gR_M37, ↓gR_M38, ↓gR_M39, ↓rd_M1, ↓rd_M2, ↓rd_M3, ↓rd_M4, ↓rd_M5, ↓rd_M6, ↓rd_M7, ↓rd_M8, ↓rd_M9, ↓rd_M10, ↓rd_M11, ↓rd_M12, ↓rd_M13, ↓rd_M14, ↓rd_M15, ↓rd_M16, ↓rd_M17, ↓rd_M18, ↓rd_M19, ↓wr_M1, ↓wr_M2, ↓wr_M3, ↓wr_M4, ↓wr_M5, ↓wr_M6, ↓wr_M7, ↓wr_M8, ↓wr_M9, ↓wr_M10, ↓wr_M11, ↓wr_M12, ↓wr_M13, ↓wr_M14, ↓wr_M15, ↓wr_M16, ↓wr_M17, ↓wr_M18, ↓wr_M19, pL_H, pV_M1, pV_M2, pV_M3, pV_M4, pV_M5, pV_M6, pV_M13, pV_M22, pV_M23, pV_M24, pV_M25, pV_M27, pV_M28, pV_M29, pV_M30, pV_M31, pV_M32, pV_M33, pV_M34, pV_M35, pV_M40, pV_M41, pV_M42, pV_M43, rd_M1, rd_M2, rd_M3, rd_M4, rd_M5, rd_M6, rd_M7, rd_M8, rd_M9, rd_M10, rd_M11, rd_M12, rd_M13, rd_M14, rd_M15, rd_M16, rd_M17, rd_M18, rd_M19, wr_M1, wr_M2, wr_M3, wr_M4, wr_M5, wr_M6, wr_M7, wr_M8, wr_M9, wr_M10, wr_M11, wr_M12, wr_M13, wr_M14, wr_M15, wr_M16, wr_M17, wr_M18, wr_M19, J_l, J_neg, J_add, J_sub, J_mul, J_lt, J_le, J_eq, J_div2, J_rem2, J_shl1, J_orp, J_or, J_and, J_shr, J_ushr, J_max, J_min, J_abs, J_b0, ↓b0_ite, ↓b0_ite2, b0_ite, bI_r, bV_r, b01_ite, ite_true, ite_false, rZ_b, K_l, J_long, M_in, h]
  rfl
theorem wayM_bd {a b : Int} : -2 ≤ wayM a b ∧ wayM a b ≤ 7 := by
  have := wayI_in a b
  unfold wayM
  split <;> omega
theorem M_canRun (h33 : m 0 33 = l) (hl : 0 ≤ l ∧ l < 8) (h34 : m 0 34 = k) (hk : 0 ≤ k ∧ k < 10) (h32 : 0 ≤ m 0 32 ∧ m 0 32 ≤ 3) (hx : 0 ≤ xx ∧ xx < 40) (hy : 0 ≤ yy ∧ yy < 40) (hp : ∀ p, 0 ≤ p → p < k → (0 ≤ cX (m 17) l p ∧ cX (m 17) l p < 40) ∧ 0 ≤ cY (m 17) l p ∧ cY (m 17) l p < 40) (hb : ∀ r, 0 ≤ r → r < k - 1 → ¬bad (m 17) l (m 0 32) r) : qM_canRun y (J xx) (J yy) (hi y TM g w m) = rI (J (b01 (k = 0 ∨ ¬bad (ptW (m 17) l k xx yy) l (m 0 32) (k - 1)))) (hi y TM g w m) := by
  unfold qM_canRun
  simp (disch := omega) only [↓isO_M, ↓gL_H, ↓pL_H, ↓gI_M1, ↓gI_M2, ↓gI_M3, ↓gI_M4, ↓gI_M5, ↓gI_M6, ↓gI_M13, ↓gI_M22, ↓gI_M23, ↓gI_M24, ↓gI_M25, ↓gI_M27, ↓gI_M28, ↓gI_M29, ↓gI_M30, ↓gI_M31, ↓gI_M32, ↓gI_M33, ↓gI_M34, ↓gI_M35, ↓gI_M40, ↓gI_M41, ↓gI_M42, ↓gI_M43, ↓pV_M1, ↓pV_M2, ↓pV_M3, ↓pV_M4, ↓pV_M5, ↓pV_M6, ↓pV_M13, ↓pV_M22, ↓pV_M23, ↓pV_M24, ↓pV_M25, ↓pV_M27, ↓pV_M28, ↓pV_M29, ↓pV_M30, ↓pV_M31, ↓pV_M32, ↓pV_M33, ↓pV_M34, ↓pV_M35, ↓pV_M40, ↓pV_M41, ↓pV_M42, ↓pV_M43, ↓gR_M0, ↓gR_M7, ↓gR_M8, ↓gR_M9, ↓gR_M10, ↓gR_M11, ↓gR_M12, ↓gR_M14, ↓gR_M15, ↓gR_M16, ↓gR_M17, ↓gR_M18, ↓gR_M19, ↓gR_M20, ↓gR_M21, ↓gR_M36, ↓gR_M37, ↓gR_M38, ↓gR_M39, ↓rd_M1, ↓rd_M2, ↓rd_M3, ↓rd_M4, ↓rd_M5, ↓rd_M6, ↓rd_M7, ↓rd_M8, ↓rd_M9, ↓rd_M10, ↓rd_M11, ↓rd_M12, ↓rd_M13, ↓rd_M14, ↓rd_M15, ↓rd_M16, ↓rd_M17, ↓rd_M18, ↓rd_M19, ↓wr_M1, ↓wr_M2, ↓wr_M3, ↓wr_M4, ↓wr_M5, ↓wr_M6, ↓wr_M7, ↓wr_M8, ↓wr_M9, ↓wr_M10, ↓wr_M11, ↓wr_M12, ↓wr_M13, ↓wr_M14, ↓wr_M15, ↓wr_M16, ↓wr_M17, ↓wr_M18, ↓wr_M19, pL_H, pV_M1, pV_M2, pV_M3, pV_M4, pV_M5, pV_M6, pV_M13, pV_M22, pV_M23, pV_M24, pV_M25, pV_M27, pV_M28, pV_M29, pV_M30, pV_M31, pV_M32, pV_M33, pV_M34, pV_M35, pV_M40, pV_M41, pV_M42, pV_M43, rd_M1, rd_M2, rd_M3, rd_M4, rd_M5, rd_M6, rd_M7, rd_M8, rd_M9, rd_M10, rd_M11, rd_M12, rd_M13, rd_M14, rd_M15, rd_M16, rd_M17, rd_M18, rd_M19, wr_M1, wr_M2, wr_M3, wr_M4, wr_M5, wr_M6, wr_M7, wr_M8, wr_M9, wr_M10, wr_M11, wr_M12, wr_M13, wr_M14, wr_M15, wr_M16, wr_M17, wr_M18, wr_M19, J_l, J_neg, J_add, J_sub, J_mul, J_lt, J_le, J_eq, J_div2, J_rem2, J_shl1, J_orp, J_or, J_and, J_shr, J_ushr, J_max, J_min, J_abs, J_b0, ↓b0_ite, ↓b0_ite2, b0_ite, bI_r, bV_r, b01_ite, ite_true, ite_false, rZ_b, K_l, J_long, M_in, h34]
  by_cases h0 : k = 0
  · rw [if_pos (show k - 1 < 0 by omega), b01_pos (Or.inl h0)]
    unfold qM_canRun_30
    simp (disch := omega) only [↓isO_M, ↓gL_H, ↓pL_H, ↓gI_M1, ↓gI_M2, ↓gI_M3, ↓gI_M4, ↓gI_M5, ↓gI_M6, ↓gI_M13, ↓gI_M22, ↓gI_M23, ↓gI_M24, ↓gI_M25, ↓gI_M27, ↓gI_M28, ↓gI_M29, ↓gI_M30, ↓gI_M31, ↓gI_M32, ↓gI_M33, ↓gI_M34, ↓gI_M35, ↓gI_M40, ↓gI_M41, ↓gI_M42, ↓gI_M43, ↓pV_M1, ↓pV_M2, ↓pV_M3, ↓pV_M4, ↓pV_M5, ↓pV_M6, ↓pV_M13, ↓pV_M22, ↓pV_M23, ↓pV_M24, ↓pV_M25, ↓pV_M27, ↓pV_M28, ↓pV_M29, ↓pV_M30, ↓pV_M31, ↓pV_M32, ↓pV_M33, ↓pV_M34, ↓pV_M35, ↓pV_M40, ↓pV_M41, ↓pV_M42, ↓pV_M43, ↓gR_M0, ↓gR_M7, ↓gR_M8, ↓gR_M9, ↓gR_M10, ↓gR_M11, ↓gR_M12, ↓gR_M14, ↓gR_M15, ↓gR_M16, ↓gR_M17, ↓gR_M18, ↓gR_M19, ↓gR_M20, ↓gR_M21, ↓gR_M36, ↓gR_M37, ↓gR_M38, ↓gR_M39, ↓rd_M1, ↓rd_M2, ↓rd_M3, ↓rd_M4, ↓rd_M5, ↓rd_M6, ↓rd_M7, ↓rd_M8, ↓rd_M9, ↓rd_M10, ↓rd_M11, ↓rd_M12, ↓rd_M13, ↓rd_M14, ↓rd_M15, ↓rd_M16, ↓rd_M17, ↓rd_M18, ↓rd_M19, ↓wr_M1, ↓wr_M2, ↓wr_M3, ↓wr_M4, ↓wr_M5, ↓wr_M6, ↓wr_M7, ↓wr_M8, ↓wr_M9, ↓wr_M10, ↓wr_M11, ↓wr_M12, ↓wr_M13, ↓wr_M14, ↓wr_M15, ↓wr_M16, ↓wr_M17, ↓wr_M18, ↓wr_M19, pL_H, pV_M1, pV_M2, pV_M3, pV_M4, pV_M5, pV_M6, pV_M13, pV_M22, pV_M23, pV_M24, pV_M25, pV_M27, pV_M28, pV_M29, pV_M30, pV_M31, pV_M32, pV_M33, pV_M34, pV_M35, pV_M40, pV_M41, pV_M42, pV_M43, rd_M1, rd_M2, rd_M3, rd_M4, rd_M5, rd_M6, rd_M7, rd_M8, rd_M9, rd_M10, rd_M11, rd_M12, rd_M13, rd_M14, rd_M15, rd_M16, rd_M17, rd_M18, rd_M19, wr_M1, wr_M2, wr_M3, wr_M4, wr_M5, wr_M6, wr_M7, wr_M8, wr_M9, wr_M10, wr_M11, wr_M12, wr_M13, wr_M14, wr_M15, wr_M16, wr_M17, wr_M18, wr_M19, J_l, J_neg, J_add, J_sub, J_mul, J_lt, J_le, J_eq, J_div2, J_rem2, J_shl1, J_orp, J_or, J_and, J_shr, J_ushr, J_max, J_min, J_abs, J_b0, ↓b0_ite, ↓b0_ite2, b0_ite, bI_r, bV_r, b01_ite, ite_true, ite_false, rZ_b, K_l, J_long, M_in]
    rw [if_neg (show ¬(0 : Int) < 0 by omega), if_pos (show k - 1 < 1 by omega)]
  · rw [if_neg (show ¬k - 1 < 0 by omega)]
    have p1 := hp (k - 1) (by omega) (by omega)
    have nx := M_newX (y := y) (g := g) (w := w) (p := k - 1) h33 hl (by omega)
    have ny := M_newY (y := y) (g := g) (w := w) (p := k - 1) h33 hl (by omega)
    have wt := M_wayTo (h := hi y TM g w m) (x0 := cX (m 17) l (k - 1)) (y0 := cY (m 17) l (k - 1)) (x1 := xx) (y1 := yy) (by omega) (by omega) (by omega) (by omega)
    have wyk : wy (ptW (m 17) l k xx yy) l (k - 1) = wayI (xx - cX (m 17) l (k - 1)) (yy - cY (m 17) l (k - 1)) := by
      unfold wy
      rw [show k - 1 + 1 = k by omega, (ptW_ck hk).1, (ptW_ck hk).2, (ptW_cx hk (show k - 1 ≠ k by omega)).1, (ptW_cx hk (show k - 1 ≠ k by omega)).2]
    have mb := wayM_bd (a := xx - cX (m 17) l (k - 1)) (b := yy - cY (m 17) l (k - 1))
    have md : wayM (xx - cX (m 17) l (k - 1)) (yy - cY (m 17) l (k - 1)) = if wayI (xx - cX (m 17) l (k - 1)) (yy - cY (m 17) l (k - 1)) < 0 then -2 else wayI (xx - cX (m 17) l (k - 1)) (yy - cY (m 17) l (k - 1)) := rfl
    have ib := wayI_in (xx - cX (m 17) l (k - 1)) (yy - cY (m 17) l (k - 1))
    simp (disch := omega) only [↓isO_M, ↓gL_H, ↓pL_H, ↓gI_M1, ↓gI_M2, ↓gI_M3, ↓gI_M4, ↓gI_M5, ↓gI_M6, ↓gI_M13, ↓gI_M22, ↓gI_M23, ↓gI_M24, ↓gI_M25, ↓gI_M27, ↓gI_M28, ↓gI_M29, ↓gI_M30, ↓gI_M31, ↓gI_M32, ↓gI_M33, ↓gI_M34, ↓gI_M35, ↓gI_M40, ↓gI_M41, ↓gI_M42, ↓gI_M43, ↓pV_M1, ↓pV_M2, ↓pV_M3, ↓pV_M4, ↓pV_M5, ↓pV_M6, ↓pV_M13, ↓pV_M22, ↓pV_M23, ↓pV_M24, ↓pV_M25, ↓pV_M27, ↓pV_M28, ↓pV_M29, ↓pV_M30, ↓pV_M31, ↓pV_M32, ↓pV_M33, ↓pV_M34, ↓pV_M35, ↓pV_M40, ↓pV_M41, ↓pV_M42, ↓pV_M43, ↓gR_M0, ↓gR_M7, ↓gR_M8, ↓gR_M9, ↓gR_M10, ↓gR_M11, ↓gR_M12, ↓gR_M14, ↓gR_M15, ↓gR_M16, ↓gR_M17, ↓gR_M18, ↓gR_M19, ↓gR_M20, ↓gR_M21, ↓gR_M36, ↓gR_M37, ↓gR_M38, ↓gR_M39, ↓rd_M1, ↓rd_M2, ↓rd_M3, ↓rd_M4, ↓rd_M5, ↓rd_M6, ↓rd_M7, ↓rd_M8, ↓rd_M9, ↓rd_M10, ↓rd_M11, ↓rd_M12, ↓rd_M13, ↓rd_M14, ↓rd_M15, ↓rd_M16, ↓rd_M17, ↓rd_M18, ↓rd_M19, ↓wr_M1, ↓wr_M2, ↓wr_M3, ↓wr_M4, ↓wr_M5, ↓wr_M6, ↓wr_M7, ↓wr_M8, ↓wr_M9, ↓wr_M10, ↓wr_M11, ↓wr_M12, ↓wr_M13, ↓wr_M14, ↓wr_M15, ↓wr_M16, ↓wr_M17, ↓wr_M18, ↓wr_M19, pL_H, pV_M1, pV_M2, pV_M3, pV_M4, pV_M5, pV_M6, pV_M13, pV_M22, pV_M23, pV_M24, pV_M25, pV_M27, pV_M28, pV_M29, pV_M30, pV_M31, pV_M32, pV_M33, pV_M34, pV_M35, pV_M40, pV_M41, pV_M42, pV_M43, rd_M1, rd_M2, rd_M3, rd_M4, rd_M5, rd_M6, rd_M7, rd_M8, rd_M9, rd_M10, rd_M11, rd_M12, rd_M13, rd_M14, rd_M15, rd_M16, rd_M17, rd_M18, rd_M19, wr_M1, wr_M2, wr_M3, wr_M4, wr_M5, wr_M6, wr_M7, wr_M8, wr_M9, wr_M10, wr_M11, wr_M12, wr_M13, wr_M14, wr_M15, wr_M16, wr_M17, wr_M18, wr_M19, J_l, J_neg, J_add, J_sub, J_mul, J_lt, J_le, J_eq, J_div2, J_rem2, J_shl1, J_orp, J_or, J_and, J_shr, J_ushr, J_max, J_min, J_abs, J_b0, ↓b0_ite, ↓b0_ite2, b0_ite, bI_r, bV_r, b01_ite, ite_true, ite_false, rZ_b, K_l, J_long, M_in, nx, ny, wt]
    unfold qM_canRun_30
    simp (disch := omega) only [↓isO_M, ↓gL_H, ↓pL_H, ↓gI_M1, ↓gI_M2, ↓gI_M3, ↓gI_M4, ↓gI_M5, ↓gI_M6, ↓gI_M13, ↓gI_M22, ↓gI_M23, ↓gI_M24, ↓gI_M25, ↓gI_M27, ↓gI_M28, ↓gI_M29, ↓gI_M30, ↓gI_M31, ↓gI_M32, ↓gI_M33, ↓gI_M34, ↓gI_M35, ↓gI_M40, ↓gI_M41, ↓gI_M42, ↓gI_M43, ↓pV_M1, ↓pV_M2, ↓pV_M3, ↓pV_M4, ↓pV_M5, ↓pV_M6, ↓pV_M13, ↓pV_M22, ↓pV_M23, ↓pV_M24, ↓pV_M25, ↓pV_M27, ↓pV_M28, ↓pV_M29, ↓pV_M30, ↓pV_M31, ↓pV_M32, ↓pV_M33, ↓pV_M34, ↓pV_M35, ↓pV_M40, ↓pV_M41, ↓pV_M42, ↓pV_M43, ↓gR_M0, ↓gR_M7, ↓gR_M8, ↓gR_M9, ↓gR_M10, ↓gR_M11, ↓gR_M12, ↓gR_M14, ↓gR_M15, ↓gR_M16, ↓gR_M17, ↓gR_M18, ↓gR_M19, ↓gR_M20, ↓gR_M21, ↓gR_M36, ↓gR_M37, ↓gR_M38, ↓gR_M39, ↓rd_M1, ↓rd_M2, ↓rd_M3, ↓rd_M4, ↓rd_M5, ↓rd_M6, ↓rd_M7, ↓rd_M8, ↓rd_M9, ↓rd_M10, ↓rd_M11, ↓rd_M12, ↓rd_M13, ↓rd_M14, ↓rd_M15, ↓rd_M16, ↓rd_M17, ↓rd_M18, ↓rd_M19, ↓wr_M1, ↓wr_M2, ↓wr_M3, ↓wr_M4, ↓wr_M5, ↓wr_M6, ↓wr_M7, ↓wr_M8, ↓wr_M9, ↓wr_M10, ↓wr_M11, ↓wr_M12, ↓wr_M13, ↓wr_M14, ↓wr_M15, ↓wr_M16, ↓wr_M17, ↓wr_M18, ↓wr_M19, pL_H, pV_M1, pV_M2, pV_M3, pV_M4, pV_M5, pV_M6, pV_M13, pV_M22, pV_M23, pV_M24, pV_M25, pV_M27, pV_M28, pV_M29, pV_M30, pV_M31, pV_M32, pV_M33, pV_M34, pV_M35, pV_M40, pV_M41, pV_M42, pV_M43, rd_M1, rd_M2, rd_M3, rd_M4, rd_M5, rd_M6, rd_M7, rd_M8, rd_M9, rd_M10, rd_M11, rd_M12, rd_M13, rd_M14, rd_M15, rd_M16, rd_M17, rd_M18, rd_M19, wr_M1, wr_M2, wr_M3, wr_M4, wr_M5, wr_M6, wr_M7, wr_M8, wr_M9, wr_M10, wr_M11, wr_M12, wr_M13, wr_M14, wr_M15, wr_M16, wr_M17, wr_M18, wr_M19, J_l, J_neg, J_add, J_sub, J_mul, J_lt, J_le, J_eq, J_div2, J_rem2, J_shl1, J_orp, J_or, J_and, J_shr, J_ushr, J_max, J_min, J_abs, J_b0, ↓b0_ite, ↓b0_ite2, b0_ite, bI_r, bV_r, b01_ite, ite_true, ite_false, rZ_b, K_l, J_long, M_in, h34]
    by_cases h1 : wayI (xx - cX (m 17) l (k - 1)) (yy - cY (m 17) l (k - 1)) < 0
    · rw [if_pos h1] at md
      rw [if_pos (by omega), b01_neg (fun q => by
        rcases q with q | q
        · exact h0 q
        · exact q (Or.inl (by rw [wyk]; exact h1)))]
    · rw [if_neg h1] at md
      rw [if_neg (by omega)]
      by_cases h2 : k - 1 < 1
      · rw [if_pos h2, b01_pos (Or.inr (fun q => by
          rcases q with q | q
          · rw [wyk] at q; exact h1 q
          · omega))]
      · rw [if_neg h2]
        have p2 := hp (k - 1 - 1) (by omega) (by omega)
        have mx := M_newX (y := y) (g := g) (w := w) (p := k - 1 - 1) h33 hl (by omega)
        have my := M_newY (y := y) (g := g) (w := w) (p := k - 1 - 1) h33 hl (by omega)
        have wt2 := M_wayTo (h := hi y TM g w m) (x0 := cX (m 17) l (k - 1 - 1)) (y0 := cY (m 17) l (k - 1 - 1)) (x1 := cX (m 17) l (k - 1)) (y1 := cY (m 17) l (k - 1)) (by omega) (by omega) (by omega) (by omega)
        have nb := hb (k - 1 - 1) (by omega) (by omega)
        have wk2 : wy (m 17) l (k - 1 - 1) = wayI (cX (m 17) l (k - 1) - cX (m 17) l (k - 1 - 1)) (cY (m 17) l (k - 1) - cY (m 17) l (k - 1 - 1)) := by
          unfold wy
          rw [show k - 1 - 1 + 1 = k - 1 by omega]
        have w0 : 0 ≤ wy (m 17) l (k - 1 - 1) := by
          by_cases q : wy (m 17) l (k - 1 - 1) < 0
          · exact absurd (Or.inl q) nb
          · omega
        have w7 := wy_le (W := m 17) (l := l) (r := k - 1 - 1)
        rw [wayM_nn (by rw [← wk2]; exact w0), ← wk2] at wt2
        have tb := trn_in (wy (m 17) l (k - 1 - 1)) (wayI (xx - cX (m 17) l (k - 1)) (yy - cY (m 17) l (k - 1))) w7 ib
        have to := M_turnOf (h := hi y TM g w m) (a := wy (m 17) l (k - 1 - 1)) (b := wayI (xx - cX (m 17) l (k - 1)) (yy - cY (m 17) l (k - 1))) (by omega)
        rw [md]
        simp (disch := omega) only [↓isO_M, ↓gL_H, ↓pL_H, ↓gI_M1, ↓gI_M2, ↓gI_M3, ↓gI_M4, ↓gI_M5, ↓gI_M6, ↓gI_M13, ↓gI_M22, ↓gI_M23, ↓gI_M24, ↓gI_M25, ↓gI_M27, ↓gI_M28, ↓gI_M29, ↓gI_M30, ↓gI_M31, ↓gI_M32, ↓gI_M33, ↓gI_M34, ↓gI_M35, ↓gI_M40, ↓gI_M41, ↓gI_M42, ↓gI_M43, ↓pV_M1, ↓pV_M2, ↓pV_M3, ↓pV_M4, ↓pV_M5, ↓pV_M6, ↓pV_M13, ↓pV_M22, ↓pV_M23, ↓pV_M24, ↓pV_M25, ↓pV_M27, ↓pV_M28, ↓pV_M29, ↓pV_M30, ↓pV_M31, ↓pV_M32, ↓pV_M33, ↓pV_M34, ↓pV_M35, ↓pV_M40, ↓pV_M41, ↓pV_M42, ↓pV_M43, ↓gR_M0, ↓gR_M7, ↓gR_M8, ↓gR_M9, ↓gR_M10, ↓gR_M11, ↓gR_M12, ↓gR_M14, ↓gR_M15, ↓gR_M16, ↓gR_M17, ↓gR_M18, ↓gR_M19, ↓gR_M20, ↓gR_M21, ↓gR_M36, ↓gR_M37, ↓gR_M38, ↓gR_M39, ↓rd_M1, ↓rd_M2, ↓rd_M3, ↓rd_M4, ↓rd_M5, ↓rd_M6, ↓rd_M7, ↓rd_M8, ↓rd_M9, ↓rd_M10, ↓rd_M11, ↓rd_M12, ↓rd_M13, ↓rd_M14, ↓rd_M15, ↓rd_M16, ↓rd_M17, ↓rd_M18, ↓rd_M19, ↓wr_M1, ↓wr_M2, ↓wr_M3, ↓wr_M4, ↓wr_M5, ↓wr_M6, ↓wr_M7, ↓wr_M8, ↓wr_M9, ↓wr_M10, ↓wr_M11, ↓wr_M12, ↓wr_M13, ↓wr_M14, ↓wr_M15, ↓wr_M16, ↓wr_M17, ↓wr_M18, ↓wr_M19, pL_H, pV_M1, pV_M2, pV_M3, pV_M4, pV_M5, pV_M6, pV_M13, pV_M22, pV_M23, pV_M24, pV_M25, pV_M27, pV_M28, pV_M29, pV_M30, pV_M31, pV_M32, pV_M33, pV_M34, pV_M35, pV_M40, pV_M41, pV_M42, pV_M43, rd_M1, rd_M2, rd_M3, rd_M4, rd_M5, rd_M6, rd_M7, rd_M8, rd_M9, rd_M10, rd_M11, rd_M12, rd_M13, rd_M14, rd_M15, rd_M16, rd_M17, rd_M18, rd_M19, wr_M1, wr_M2, wr_M3, wr_M4, wr_M5, wr_M6, wr_M7, wr_M8, wr_M9, wr_M10, wr_M11, wr_M12, wr_M13, wr_M14, wr_M15, wr_M16, wr_M17, wr_M18, wr_M19, J_l, J_neg, J_add, J_sub, J_mul, J_lt, J_le, J_eq, J_div2, J_rem2, J_shl1, J_orp, J_or, J_and, J_shr, J_ushr, J_max, J_min, J_abs, J_b0, ↓b0_ite, ↓b0_ite2, b0_ite, bI_r, bV_r, b01_ite, ite_true, ite_false, rZ_b, K_l, J_long, M_in, nx, ny, mx, my, wt2, to]
        have wyp : wy (ptW (m 17) l k xx yy) l (k - 1 - 1) = wy (m 17) l (k - 1 - 1) := (ptW_wy hk (by omega) (by omega)).1
        by_cases h3 : m 0 32 < trn (wy (m 17) l (k - 1 - 1)) (wayI (xx - cX (m 17) l (k - 1)) (yy - cY (m 17) l (k - 1)))
        · rw [if_pos h3, b01_neg (fun q => by
            rcases q with q | q
            · exact h0 q
            · exact q (Or.inr ⟨by omega, by rw [wyp, wyk]; exact h3⟩))]
        · rw [if_neg h3, b01_pos (Or.inr (fun q => by
            rcases q with q | ⟨_, q⟩
            · rw [wyk] at q; exact h1 q
            · rw [wyp, wyk] at q; exact h3 q))]
end PN
