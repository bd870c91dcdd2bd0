/-! the model lays its lines -/
section LY
variable {y : Nat} {g : XH} {w : Int64} {m m0 : CT} {W : Int → Int} {l r k j c t n i v : Int}
/-- within a line, after k steps -/
def LyR (W : Int → Int) (m0 m : CT) (l k : Int) : Prop :=
  (∀ o, o ≠ 8 → o ≠ 9 → o ≠ 10 → o ≠ 11 → m o = m0 o) ∧ m 8 l = k ∧ (∀ i, i ≠ l → m 8 i = m0 8 i) ∧ (∀ i, 0 ≤ i → i ≤ k → m 9 (400 * l + i) = Ps W l i) ∧ (∀ i, i < 400 * l → m 9 i = m0 9 i) ∧ (∀ c, 0 ≤ c → c < 1600 → m 10 c = LOp W l k c) ∧ ∀ j, 0 ≤ j → j < 6400 → m 11 j = LVp W l k j
theorem LOp_nn : 0 ≤ LOp W l k c ∧ LOp W l k c ≤ 255 := mk_le255
theorem LO_nn : 0 ≤ LO W l c ∧ LO W l c ≤ 255 := mk_le255
theorem LVp_nn : 0 ≤ LVp W l k c ∧ LVp W l k c ≤ 255 := mk_le255
theorem LVs_nn : 0 ≤ LVs W l c ∧ LVs W l c ≤ 255 := mk_le255
theorem SMp_nn : 0 ≤ SMp W l k c ∧ SMp W l k c ≤ 255 := mk_le255
theorem SM_nn : 0 ≤ SM W l c ∧ SM W l c ≤ 255 := mk_le255
def lrM (m : CT) (l p e : Int) : CT := rs (rs (rs (rs m 11 (ru (m 11) e (ior (m 11 e) (pw l)))) 8 (ru (m 8) l (m 8 l + 1))) 9 (ru (m 9) (400 * l + (m 8 l + 1)) p)) 10 (ru (m 10) p (ior (m 10 p) (pw l)))
theorem LyR_s (hl : 0 ≤ l ∧ l < 8) (hg : LG W l) (hk : 0 ≤ k) (hk2 : k < len W l) (h : LyR W m0 m l k) : LyR W m0 (lrM m l (Ps W l (k + 1)) (edge W l k)) l (k + 1) := by
  obtain ⟨h1, h2, h3, h4, h5, h6, h7⟩ := h
  have a1 := Ps_in hg (k := k + 1) (by omega) (by omega)
  have a2 := edge_in hg hk hk2
  unfold lrM
  refine ⟨fun o o1 o2 o3 o4 => ?_, ?_, fun i hi => ?_, fun i i1 i2 => ?_, fun i hi => ?_, fun c c1 c2 => ?_, fun j j1 j2 => ?_⟩
  · rw [rs_ne o3, rs_ne o2, rs_ne o1, rs_ne o4, h1 o o1 o2 o3 o4]
  · simp (disch := omega) only [rs_same, rs_ne, rs_rs, ru_same, ru_ne, ne_eq, h2]
  · simp (disch := omega) only [rs_same, rs_ne, rs_rs, ru_same, ru_ne, ne_eq, h3 i hi]
  · simp (disch := omega) only [rs_same, rs_ne, rs_rs, ru_same, ru_ne, ne_eq, h2]
    by_cases e : i = k + 1
    · rw [e, ru_same]
    · rw [ru_ne (by omega), h4 i i1 (by omega)]
  · simp (disch := omega) only [rs_same, rs_ne, rs_rs, ru_same, ru_ne, ne_eq, h5 i hi]
  · simp (disch := omega) only [rs_same, rs_ne, rs_rs, ru_same, ru_ne, ne_eq]
    rw [LOp_s hl hk]
    by_cases e : c = Ps W l (k + 1)
    · rw [e, ru_same, if_pos rfl, h6 _ a1.1 a1.2]
    · rw [ru_ne e, if_neg e, h6 c c1 c2]
  · simp (disch := omega) only [rs_same, rs_ne, rs_rs, ru_same, ru_ne, ne_eq]
    rw [LVp_s hl hk]
    by_cases e : j = edge W l k
    · rw [e, ru_same, if_pos rfl, h7 _ a2.1 a2.2]
    · rw [ru_ne e, if_neg e, h7 j j1 j2]
theorem M_lays72 {k34 : Nat → Int32 → Int32 → Int32 → Int32 → XH → XR} {x5 p s1 e : Int} (hl : 0 ≤ l ∧ l < 8) (hv : 0 ≤ v ∧ v ≤ 7) (he : 4 * s1 + v % 4 = e) (he2 : 0 ≤ e ∧ e < 6400) (hp : 0 ≤ p ∧ p < 1600) (h8 : 0 ≤ m 8 l ∧ m 8 l < 399) (h10 : 0 ≤ m 10 p) (h11 : 0 ≤ m 11 e) : qM_laysRun_72 k34 y (J l) (J v) (J x5) (J p) (J s1) (J 4) (y + 11) (hi y TM g w m) = k34 y (J l) (J v) (J p) (J (x5 + -1)) (hi y TM g w (lrM m l p e)) := by
  unfold qM_laysRun_72 lrM
  simp (disch := omega) only [↓isO_M, ↓gL_H, ↓pL_H, ↓gI_M1, ↓gI_M2, ↓gI_M3, ↓gI_M4, ↓gI_M5, ↓gI_M6, ↓gI_M13, ↓gI_M22, ↓gI_M23, ↓gI_M24, ↓gI_M25, ↓gI_M27, ↓gI_M28, ↓gI_M29, ↓gI_M30, ↓gI_M31, ↓gI_M32, ↓gI_M33, ↓gI_M34, ↓gI_M35, ↓gI_M40, ↓gI_M41, ↓gI_M42, ↓gI_M43, ↓pV_M1, ↓pV_M2, ↓pV_M3, ↓pV_M4, ↓pV_M5, ↓pV_M6, ↓pV_M13, ↓pV_M22, ↓pV_M23, ↓pV_M24, ↓pV_M25, ↓pV_M27, ↓pV_M28, ↓pV_M29, ↓pV_M30, ↓pV_M31, ↓pV_M32, ↓pV_M33, ↓pV_M34, ↓pV_M35, ↓pV_M40, ↓pV_M41, ↓pV_M42, ↓pV_M43, ↓gR_M0, ↓gR_M7, ↓gR_M8, ↓gR_M9, ↓gR_M10, ↓gR_M11, ↓gR_M12, ↓gR_M14, ↓gR_M15, ↓gR_M16, ↓gR_M17, ↓gR_M18, ↓gR_M19, ↓gR_M20, ↓gR_M21, ↓gR_M36, ↓gR_M37, ↓gR_M38, ↓gR_M39, ↓rd_M1, ↓rd_M2, ↓rd_M3, ↓rd_M4, ↓rd_M5, ↓rd_M6, ↓rd_M7, ↓rd_M8, ↓rd_M9, ↓rd_M10, ↓rd_M11, ↓rd_M12, ↓rd_M13, ↓rd_M14, ↓rd_M15, ↓rd_M16, ↓rd_M17, ↓rd_M18, ↓rd_M19, ↓wr_M1, ↓wr_M2, ↓wr_M3, ↓wr_M4, ↓wr_M5, ↓wr_M6, ↓wr_M7, ↓wr_M8, ↓wr_M9, ↓wr_M10, ↓wr_M11, ↓wr_M12, ↓wr_M13, ↓wr_M14, ↓wr_M15, ↓wr_M16, ↓wr_M17, ↓wr_M18, ↓wr_M19, pL_H, pV_M1, pV_M2, pV_M3, pV_M4, pV_M5, pV_M6, pV_M13, pV_M22, pV_M23, pV_M24, pV_M25, pV_M27, pV_M28, pV_M29, pV_M30, pV_M31, pV_M32, pV_M33, pV_M34, pV_M35, pV_M40, pV_M41, pV_M42, pV_M43, rd_M1, rd_M2, rd_M3, rd_M4, rd_M5, rd_M6, rd_M7, rd_M8, rd_M9, rd_M10, rd_M11, rd_M12, rd_M13, rd_M14, rd_M15, rd_M16, rd_M17, rd_M18, rd_M19, wr_M1, wr_M2, wr_M3, wr_M4, wr_M5, wr_M6, wr_M7, wr_M8, wr_M9, wr_M10, wr_M11, wr_M12, wr_M13, wr_M14, wr_M15, wr_M16, wr_M17, wr_M18, wr_M19, J_l, J_neg, J_add, J_sub, J_mul, J_lt, J_le, J_eq, J_div2, J_rem2, J_shl1, J_orp, J_or, J_and, J_shr, J_ushr, J_max, J_min, J_abs, J_b0, ↓b0_ite, ↓b0_ite2, b0_ite, bI_r, bV_r, b01_ite, rZ_b, K_l, J_long, M_in, rs_same, rs_ne, rs_rs, ru_same, ru_ne, ne_eq, he]
theorem M_laysRun34 (hl : 0 ≤ l ∧ l < 8) (hg : LG W l) (hW : m0 3 = W) (hr : 0 ≤ r) (hr2 : r < cN W l - 1) (h : LyR W m0 m l (pr W l r)) : ∃ m', qM_laysRun_34 LF y (J l) (J (wy W l r)) (J (Ps W l (pr W l r + 0))) (J (sp W l r - 0)) (hi y TM g w m) = rV (hi y TM g w m') ∧ LyR W m0 m' l (pr W l (r + 1)) := by
  have h3 : m 3 = W := by rw [h.1 3 (by decide) (by decide) (by decide) (by decide), hW]
  have b1 := pr_bd hg.1 hr (by omega)
  have b2 := sp_bd hg.1 hr hr2
  have b3 := hg.2.1 r hr hr2
  have b4 := wy_le (W := W) (l := l) (r := r)
  have b5 := len_bd hg.1
  have b6 := pr_mono hg (r := r + 1) (k := cN W l - 1) (by omega) (by omega) (by omega)
  have b7 : pr W l (r + 1) = pr W l r + sp W l r := pr_s hr
  have hlb : LB (m 3) l := by rw [h3]; exact hg.1
  change pr W l (r + 1) + _ ≤ len W l at b6
  have e9 : m 9 (400 * l + pr W l r) = Ps W l (pr W l r) := h.2.2.2.1 _ b1.1 (by omega)
  exact loopI (S := Int × CT) (fun k q => qM_laysRun_34 k y (J l) (J (wy W l r)) (J (Ps W l (pr W l r + q.1))) (J (sp W l r - q.1)) (hi y TM g w q.2)) (fun X => ∃ m', X = rV (hi y TM g w m') ∧ LyR W m0 m' l (pr W l (r + 1))) (fun q => (0 ≤ q.1 ∧ q.1 ≤ sp W l r) ∧ LyR W m0 q.2 l (pr W l r + q.1)) (fun q => sp W l r - q.1) (by intro q hq; omega) (fun k q hq ih => by
    obtain ⟨j, u⟩ := q
    obtain ⟨⟨hj, hj2⟩, hu⟩ := hq
    change 0 ≤ j at hj
    change j ≤ sp W l r at hj2
    change LyR W m0 u l (pr W l r + j) at hu
    show ∃ m', qM_laysRun_34_b (qM_laysRun_34 k) y (J l) (J (wy W l r)) (J (Ps W l (pr W l r + j))) (J (sp W l r - j)) (hi y TM g w u) = rV (hi y TM g w m') ∧ LyR W m0 m' l (pr W l (r + 1))
    unfold qM_laysRun_34_b
    by_cases hc : 0 < sp W l r - j
    · have d1 := D_run hg hr hr2 hj (by omega)
      have d2 := Ps_s hg (k := pr W l r + j) (by omega) (by omega)
      rw [d1] at d2
      have d3 := dxI_in (wy W l r)
      have d4 := dyI_in (wy W l r)
      have a1 := Ps_in hg (k := pr W l r + j + 1) (by omega) (by omega)
      have a2 := edge_in hg (k := pr W l r + j) (by omega) (by omega)
      have hed : edge W l (pr W l r + j) = 4 * (if wy W l r < 4 then Ps W l (pr W l r + j) else Ps W l (pr W l r + j + 1)) + wy W l r % 4 := by unfold edge; rw [d1]
      have f8 := hu.2.1
      have f10 := hu.2.2.2.2.2.1 _ a1.1 a1.2
      have f11 := hu.2.2.2.2.2.2 _ a2.1 a2.2
      have n10 := LOp_nn (W := W) (l := l) (k := pr W l r + j) (c := Ps W l (pr W l r + j + 1))
      have n11 := LVp_nn (W := W) (l := l) (k := pr W l r + j) (c := edge W l (pr W l r + j))
      have hnext := ih (j + 1, lrM u l (Ps W l (pr W l r + j + 1)) (edge W l (pr W l r + j))) ⟨⟨by show 0 ≤ j + 1; omega, by show j + 1 ≤ sp W l r; omega⟩, by
        show LyR W m0 _ l (pr W l r + (j + 1))
        rw [← Int.add_assoc]
        exact LyR_s hl hg (by omega) (by omega) hu⟩ (by show sp W l r - (j + 1) < sp W l r - j; omega)
      change ∃ m', qM_laysRun_34 k y (J l) (J (wy W l r)) (J (Ps W l (pr W l r + (j + 1)))) (J (sp W l r - (j + 1))) (hi y TM g w _) = _ ∧ _ at hnext
      rw [← Int.add_assoc, show sp W l r - (j + 1) = sp W l r - j + -1 by omega] at hnext
      simp (disch := omega) only [↓isO_M, ↓gL_H, ↓pL_H, ↓gI_M1, ↓gI_M2, ↓gI_M3, ↓gI_M4, ↓gI_M5, ↓gI_M6, ↓gI_M13, ↓gI_M22, ↓gI_M23, ↓gI_M24, ↓gI_M25, ↓gI_M27, ↓gI_M28, ↓gI_M29, ↓gI_M30, ↓gI_M31, ↓gI_M32, ↓gI_M33, ↓gI_M34, ↓gI_M35, ↓gI_M40, ↓gI_M41, ↓gI_M42, ↓gI_M43, ↓pV_M1, ↓pV_M2, ↓pV_M3, ↓pV_M4, ↓pV_M5, ↓pV_M6, ↓pV_M13, ↓pV_M22, ↓pV_M23, ↓pV_M24, ↓pV_M25, ↓pV_M27, ↓pV_M28, ↓pV_M29, ↓pV_M30, ↓pV_M31, ↓pV_M32, ↓pV_M33, ↓pV_M34, ↓pV_M35, ↓pV_M40, ↓pV_M41, ↓pV_M42, ↓pV_M43, ↓gR_M0, ↓gR_M7, ↓gR_M8, ↓gR_M9, ↓gR_M10, ↓gR_M11, ↓gR_M12, ↓gR_M14, ↓gR_M15, ↓gR_M16, ↓gR_M17, ↓gR_M18, ↓gR_M19, ↓gR_M20, ↓gR_M21, ↓gR_M36, ↓gR_M37, ↓gR_M38, ↓gR_M39, ↓rd_M1, ↓rd_M2, ↓rd_M3, ↓rd_M4, ↓rd_M5, ↓rd_M6, ↓rd_M7, ↓rd_M8, ↓rd_M9, ↓rd_M10, ↓rd_M11, ↓rd_M12, ↓rd_M13, ↓rd_M14, ↓rd_M15, ↓rd_M16, ↓rd_M17, ↓rd_M18, ↓rd_M19, ↓wr_M1, ↓wr_M2, ↓wr_M3, ↓wr_M4, ↓wr_M5, ↓wr_M6, ↓wr_M7, ↓wr_M8, ↓wr_M9, ↓wr_M10, ↓wr_M11, ↓wr_M12, ↓wr_M13, ↓wr_M14, ↓wr_M15, ↓wr_M16, ↓wr_M17, ↓wr_M18, ↓wr_M19, pL_H, pV_M1, pV_M2, pV_M3, pV_M4, pV_M5, pV_M6, pV_M13, pV_M22, pV_M23, pV_M24, pV_M25, pV_M27, pV_M28, pV_M29, pV_M30, pV_M31, pV_M32, pV_M33, pV_M34, pV_M35, pV_M40, pV_M41, pV_M42, pV_M43, rd_M1, rd_M2, rd_M3, rd_M4, rd_M5, rd_M6, rd_M7, rd_M8, rd_M9, rd_M10, rd_M11, rd_M12, rd_M13, rd_M14, rd_M15, rd_M16, rd_M17, rd_M18, rd_M19, wr_M1, wr_M2, wr_M3, wr_M4, wr_M5, wr_M6, wr_M7, wr_M8, wr_M9, wr_M10, wr_M11, wr_M12, wr_M13, wr_M14, wr_M15, wr_M16, wr_M17, wr_M18, wr_M19, J_l, J_neg, J_add, J_sub, J_mul, J_lt, J_le, J_eq, J_div2, J_rem2, J_shl1, J_orp, J_or, J_and, J_shr, J_ushr, J_max, J_min, J_abs, J_b0, ↓b0_ite, ↓b0_ite2, b0_ite, bI_r, bV_r, b01_ite, rZ_b, K_l, J_long, M_in, if_pos, qM_dx_hp, qM_dy_hp, M_cell, ← d2]
      by_cases h4 : wy W l r < 4
      · rw [if_pos h4, M_lays72 (e := edge W l (pr W l r + j)) hl ⟨b3, b4.2⟩ (by rw [hed, if_pos h4]) a2 a1 (by omega) (by omega) (by omega)]
        exact hnext
      · rw [if_neg h4, M_lays72 (e := edge W l (pr W l r + j)) hl ⟨b3, b4.2⟩ (by rw [hed, if_neg h4]) a2 a1 (by omega) (by omega) (by omega)]
        exact hnext
    · have e : j = sp W l r := by omega
      subst e
      simp (disch := omega) only [↓isO_M, ↓gL_H, ↓pL_H, ↓gI_M1, ↓gI_M2, ↓gI_M3, ↓gI_M4, ↓gI_M5, ↓gI_M6, ↓gI_M13, ↓gI_M22, ↓gI_M23, ↓gI_M24, ↓gI_M25, ↓gI_M27, ↓gI_M28, ↓gI_M29, ↓gI_M30, ↓gI_M31, ↓gI_M32, ↓gI_M33, ↓gI_M34, ↓gI_M35, ↓gI_M40, ↓gI_M41, ↓gI_M42, ↓gI_M43, ↓pV_M1, ↓pV_M2, ↓pV_M3, ↓pV_M4, ↓pV_M5, ↓pV_M6, ↓pV_M13, ↓pV_M22, ↓pV_M23, ↓pV_M24, ↓pV_M25, ↓pV_M27, ↓pV_M28, ↓pV_M29, ↓pV_M30, ↓pV_M31, ↓pV_M32, ↓pV_M33, ↓pV_M34, ↓pV_M35, ↓pV_M40, ↓pV_M41, ↓pV_M42, ↓pV_M43, ↓gR_M0, ↓gR_M7, ↓gR_M8, ↓gR_M9, ↓gR_M10, ↓gR_M11, ↓gR_M12, ↓gR_M14, ↓gR_M15, ↓gR_M16, ↓gR_M17, ↓gR_M18, ↓gR_M19, ↓gR_M20, ↓gR_M21, ↓gR_M36, ↓gR_M37, ↓gR_M38, ↓gR_M39, ↓rd_M1, ↓rd_M2, ↓rd_M3, ↓rd_M4, ↓rd_M5, ↓rd_M6, ↓rd_M7, ↓rd_M8, ↓rd_M9, ↓rd_M10, ↓rd_M11, ↓rd_M12, ↓rd_M13, ↓rd_M14, ↓rd_M15, ↓rd_M16, ↓rd_M17, ↓rd_M18, ↓rd_M19, ↓wr_M1, ↓wr_M2, ↓wr_M3, ↓wr_M4, ↓wr_M5, ↓wr_M6, ↓wr_M7, ↓wr_M8, ↓wr_M9, ↓wr_M10, ↓wr_M11, ↓wr_M12, ↓wr_M13, ↓wr_M14, ↓wr_M15, ↓wr_M16, ↓wr_M17, ↓wr_M18, ↓wr_M19, pL_H, pV_M1, pV_M2, pV_M3, pV_M4, pV_M5, pV_M6, pV_M13, pV_M22, pV_M23, pV_M24, pV_M25, pV_M27, pV_M28, pV_M29, pV_M30, pV_M31, pV_M32, pV_M33, pV_M34, pV_M35, pV_M40, pV_M41, pV_M42, pV_M43, rd_M1, rd_M2, rd_M3, rd_M4, rd_M5, rd_M6, rd_M7, rd_M8, rd_M9, rd_M10, rd_M11, rd_M12, rd_M13, rd_M14, rd_M15, rd_M16, rd_M17, rd_M18, rd_M19, wr_M1, wr_M2, wr_M3, wr_M4, wr_M5, wr_M6, wr_M7, wr_M8, wr_M9, wr_M10, wr_M11, wr_M12, wr_M13, wr_M14, wr_M15, wr_M16, wr_M17, wr_M18, wr_M19, J_l, J_neg, J_add, J_sub, J_mul, J_lt, J_le, J_eq, J_div2, J_rem2, J_shl1, J_orp, J_or, J_and, J_shr, J_ushr, J_max, J_min, J_abs, J_b0, ↓b0_ite, ↓b0_ite2, b0_ite, bI_r, bV_r, b01_ite, rZ_b, K_l, J_long, M_in, if_neg]
      rw [← b7] at hu
      exact ⟨u, rfl, hu⟩) (0, m) ⟨⟨by show (0 : Int) ≤ 0; omega, by show 0 ≤ sp W l r; omega⟩, by show LyR W m0 m l (pr W l r + 0); rw [Int.add_zero]; exact h⟩ (by show sp W l r - 0 < 20000; omega)
theorem M_laysRun (hl : 0 ≤ l ∧ l < 8) (hg : LG W l) (hW : m0 3 = W) (hr : 0 ≤ r) (hr2 : r < cN W l - 1) (h : LyR W m0 m l (pr W l r)) : ∃ m', qM_laysRun y (J l) (J r) (hi y TM g w m) = rV (hi y TM g w m') ∧ LyR W m0 m' l (pr W l (r + 1)) := by
  have h3 : m 3 = W := by rw [h.1 3 (by decide) (by decide) (by decide) (by decide), hW]
  have b1 := pr_bd hg.1 hr (by omega)
  have b2 := sp_bd hg.1 hr hr2
  have b3 := hg.2.1 r hr hr2
  have b4 := wy_le (W := W) (l := l) (r := r)
  have b5 := len_bd hg.1
  have b6 := pr_mono hg (r := r + 1) (k := cN W l - 1) (by omega) (by omega) (by omega)
  have b7 : pr W l (r + 1) = pr W l r + sp W l r := pr_s hr
  have hlb : LB (m 3) l := by rw [h3]; exact hg.1
  change pr W l (r + 1) + _ ≤ len W l at b6
  have e9 : m 9 (400 * l + pr W l r) = Ps W l (pr W l r) := h.2.2.2.1 _ b1.1 (by omega)
  have key := M_laysRun34 (y := y) (g := g) (w := w) hl hg hW hr hr2 h
  unfold qM_laysRun
  have f8 := h.2.1
  rw [Int.add_zero, Int.sub_zero] at key
  have hw : 0 ≤ wy (m 3) l r := by rw [h3]; exact b3
  have hr3 : 0 ≤ r ∧ r < cN (m 3) l - 1 := by rw [h3]; exact ⟨hr, hr2⟩
  simp (disch := first | assumption | omega) only [↓isO_M, ↓gL_H, ↓pL_H, ↓gI_M1, ↓gI_M2, ↓gI_M3, ↓gI_M4, ↓gI_M5, ↓gI_M6, ↓gI_M13, ↓gI_M22, ↓gI_M23, ↓gI_M24, ↓gI_M25, ↓gI_M27, ↓gI_M28, ↓gI_M29, ↓gI_M30, ↓gI_M31, ↓gI_M32, ↓gI_M33, ↓gI_M34, ↓gI_M35, ↓gI_M40, ↓gI_M41, ↓gI_M42, ↓gI_M43, ↓pV_M1, ↓pV_M2, ↓pV_M3, ↓pV_M4, ↓pV_M5, ↓pV_M6, ↓pV_M13, ↓pV_M22, ↓pV_M23, ↓pV_M24, ↓pV_M25, ↓pV_M27, ↓pV_M28, ↓pV_M29, ↓pV_M30, ↓pV_M31, ↓pV_M32, ↓pV_M33, ↓pV_M34, ↓pV_M35, ↓pV_M40, ↓pV_M41, ↓pV_M42, ↓pV_M43, ↓gR_M0, ↓gR_M7, ↓gR_M8, ↓gR_M9, ↓gR_M10, ↓gR_M11, ↓gR_M12, ↓gR_M14, ↓gR_M15, ↓gR_M16, ↓gR_M17, ↓gR_M18, ↓gR_M19, ↓gR_M20, ↓gR_M21, ↓gR_M36, ↓gR_M37, ↓gR_M38, ↓gR_M39, ↓rd_M1, ↓rd_M2, ↓rd_M3, ↓rd_M4, ↓rd_M5, ↓rd_M6, ↓rd_M7, ↓rd_M8, ↓rd_M9, ↓rd_M10, ↓rd_M11, ↓rd_M12, ↓rd_M13, ↓rd_M14, ↓rd_M15, ↓rd_M16, ↓rd_M17, ↓rd_M18, ↓rd_M19, ↓wr_M1, ↓wr_M2, ↓wr_M3, ↓wr_M4, ↓wr_M5, ↓wr_M6, ↓wr_M7, ↓wr_M8, ↓wr_M9, ↓wr_M10, ↓wr_M11, ↓wr_M12, ↓wr_M13, ↓wr_M14, ↓wr_M15, ↓wr_M16, ↓wr_M17, ↓wr_M18, ↓wr_M19, pL_H, pV_M1, pV_M2, pV_M3, pV_M4, pV_M5, pV_M6, pV_M13, pV_M22, pV_M23, pV_M24, pV_M25, pV_M27, pV_M28, pV_M29, pV_M30, pV_M31, pV_M32, pV_M33, pV_M34, pV_M35, pV_M40, pV_M41, pV_M42, pV_M43, rd_M1, rd_M2, rd_M3, rd_M4, rd_M5, rd_M6, rd_M7, rd_M8, rd_M9, rd_M10, rd_M11, rd_M12, rd_M13, rd_M14, rd_M15, rd_M16, rd_M17, rd_M18, rd_M19, wr_M1, wr_M2, wr_M3, wr_M4, wr_M5, wr_M6, wr_M7, wr_M8, wr_M9, wr_M10, wr_M11, wr_M12, wr_M13, wr_M14, wr_M15, wr_M16, wr_M17, wr_M18, wr_M19, J_l, J_neg, J_add, J_sub, J_mul, J_lt, J_le, J_eq, J_div2, J_rem2, J_shl1, J_orp, J_or, J_and, J_shr, J_ushr, J_max, J_min, J_abs, J_b0, ↓b0_ite, ↓b0_ite2, b0_ite, bI_r, bV_r, b01_ite, rZ_b, K_l, J_long, M_in, M_wayOf2 hl hlb hr3 hw, f8, e9, M_stepsOf hl hlb hr3]
  rw [h3]
  exact key
end LY
