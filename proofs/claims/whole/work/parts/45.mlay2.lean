/-! the model lays stations, and all lines -/
section LS
variable {y : Nat} {g : XH} {w : Int64} {m m0 : CT} {W : Int → Int} {l r k j c t n i v : Int}
theorem M_stepsTo (hl : 0 ≤ l ∧ l < 8) (hg : LG (m 3) l) (h8 : m 8 l = len (m 3) l) (ht : 0 ≤ t ∧ t < 20) : qM_stepsTo y (J l) (J t) (hi y TM g w m) = rI (J (st (m 3) l t)) (hi y TM g w m) := by
  have b1 := hg.1.2.1
  have b3 := st_mulbd hg.1 ht
  unfold qM_stepsTo st
  simp (disch := omega) only [↓isO_M, ↓gL_H, ↓pL_H, ↓gI_M1, ↓gI_M2, ↓gI_M3, ↓gI_M4, ↓gI_M5, ↓gI_M6, ↓gI_M13, ↓gI_M22, ↓gI_M23, ↓gI_M24, ↓gI_M25, ↓gI_M27, ↓gI_M28, ↓gI_M29, ↓gI_M30, ↓gI_M31, ↓gI_M32, ↓gI_M33, ↓gI_M34, ↓gI_M35, ↓gI_M40, ↓gI_M41, ↓gI_M42, ↓gI_M43, ↓pV_M1, ↓pV_M2, ↓pV_M3, ↓pV_M4, ↓pV_M5, ↓pV_M6, ↓pV_M13, ↓pV_M22, ↓pV_M23, ↓pV_M24, ↓pV_M25, ↓pV_M27, ↓pV_M28, ↓pV_M29, ↓pV_M30, ↓pV_M31, ↓pV_M32, ↓pV_M33, ↓pV_M34, ↓pV_M35, ↓pV_M40, ↓pV_M41, ↓pV_M42, ↓pV_M43, ↓gR_M0, ↓gR_M7, ↓gR_M8, ↓gR_M9, ↓gR_M10, ↓gR_M11, ↓gR_M12, ↓gR_M14, ↓gR_M15, ↓gR_M16, ↓gR_M17, ↓gR_M18, ↓gR_M19, ↓gR_M20, ↓gR_M21, ↓gR_M36, ↓gR_M37, ↓gR_M38, ↓gR_M39, ↓rd_M1, ↓rd_M2, ↓rd_M3, ↓rd_M4, ↓rd_M5, ↓rd_M6, ↓rd_M7, ↓rd_M8, ↓rd_M9, ↓rd_M10, ↓rd_M11, ↓rd_M12, ↓rd_M13, ↓rd_M14, ↓rd_M15, ↓rd_M16, ↓rd_M17, ↓rd_M18, ↓rd_M19, ↓wr_M1, ↓wr_M2, ↓wr_M3, ↓wr_M4, ↓wr_M5, ↓wr_M6, ↓wr_M7, ↓wr_M8, ↓wr_M9, ↓wr_M10, ↓wr_M11, ↓wr_M12, ↓wr_M13, ↓wr_M14, ↓wr_M15, ↓wr_M16, ↓wr_M17, ↓wr_M18, ↓wr_M19, pL_H, pV_M1, pV_M2, pV_M3, pV_M4, pV_M5, pV_M6, pV_M13, pV_M22, pV_M23, pV_M24, pV_M25, pV_M27, pV_M28, pV_M29, pV_M30, pV_M31, pV_M32, pV_M33, pV_M34, pV_M35, pV_M40, pV_M41, pV_M42, pV_M43, rd_M1, rd_M2, rd_M3, rd_M4, rd_M5, rd_M6, rd_M7, rd_M8, rd_M9, rd_M10, rd_M11, rd_M12, rd_M13, rd_M14, rd_M15, rd_M16, rd_M17, rd_M18, rd_M19, wr_M1, wr_M2, wr_M3, wr_M4, wr_M5, wr_M6, wr_M7, wr_M8, wr_M9, wr_M10, wr_M11, wr_M12, wr_M13, wr_M14, wr_M15, wr_M16, wr_M17, wr_M18, wr_M19, J_l, J_neg, J_add, J_sub, J_mul, J_lt, J_le, J_eq, J_div2, J_rem2, J_shl1, J_orp, J_or, J_and, J_shr, J_ushr, J_max, J_min, J_abs, J_b0, ↓b0_ite, ↓b0_ite2, b0_ite, bI_r, bV_r, b01_ite, rZ_b, K_l, J_long, M_in, M_oT, h8, if_neg]
theorem M_cellOf (hl : 0 ≤ l ∧ l < 8) (hg : LG (m 3) l) (h8 : m 8 l = len (m 3) l) (h9 : ∀ i, 0 ≤ i → i ≤ len (m 3) l → m 9 (400 * l + i) = Ps (m 3) l i) (ht : 0 ≤ t ∧ t < cT (m 3) l) : qM_cellOf y (J l) (J t) (hi y TM g w m) = rI (J (sc (m 3) l t)) (hi y TM g w m) := by
  have b1 := hg.1.2.1
  have b2 := st_in hg ht.1 ht.2
  have b3 := len_bd hg.1
  have e := h9 _ b2.1 b2.2
  unfold qM_cellOf sc
  simp (disch := first | assumption | omega) only [↓isO_M, ↓gL_H, ↓pL_H, ↓gI_M1, ↓gI_M2, ↓gI_M3, ↓gI_M4, ↓gI_M5, ↓gI_M6, ↓gI_M13, ↓gI_M22, ↓gI_M23, ↓gI_M24, ↓gI_M25, ↓gI_M27, ↓gI_M28, ↓gI_M29, ↓gI_M30, ↓gI_M31, ↓gI_M32, ↓gI_M33, ↓gI_M34, ↓gI_M35, ↓gI_M40, ↓gI_M41, ↓gI_M42, ↓gI_M43, ↓pV_M1, ↓pV_M2, ↓pV_M3, ↓pV_M4, ↓pV_M5, ↓pV_M6, ↓pV_M13, ↓pV_M22, ↓pV_M23, ↓pV_M24, ↓pV_M25, ↓pV_M27, ↓pV_M28, ↓pV_M29, ↓pV_M30, ↓pV_M31, ↓pV_M32, ↓pV_M33, ↓pV_M34, ↓pV_M35, ↓pV_M40, ↓pV_M41, ↓pV_M42, ↓pV_M43, ↓gR_M0, ↓gR_M7, ↓gR_M8, ↓gR_M9, ↓gR_M10, ↓gR_M11, ↓gR_M12, ↓gR_M14, ↓gR_M15, ↓gR_M16, ↓gR_M17, ↓gR_M18, ↓gR_M19, ↓gR_M20, ↓gR_M21, ↓gR_M36, ↓gR_M37, ↓gR_M38, ↓gR_M39, ↓rd_M1, ↓rd_M2, ↓rd_M3, ↓rd_M4, ↓rd_M5, ↓rd_M6, ↓rd_M7, ↓rd_M8, ↓rd_M9, ↓rd_M10, ↓rd_M11, ↓rd_M12, ↓rd_M13, ↓rd_M14, ↓rd_M15, ↓rd_M16, ↓rd_M17, ↓rd_M18, ↓rd_M19, ↓wr_M1, ↓wr_M2, ↓wr_M3, ↓wr_M4, ↓wr_M5, ↓wr_M6, ↓wr_M7, ↓wr_M8, ↓wr_M9, ↓wr_M10, ↓wr_M11, ↓wr_M12, ↓wr_M13, ↓wr_M14, ↓wr_M15, ↓wr_M16, ↓wr_M17, ↓wr_M18, ↓wr_M19, pL_H, pV_M1, pV_M2, pV_M3, pV_M4, pV_M5, pV_M6, pV_M13, pV_M22, pV_M23, pV_M24, pV_M25, pV_M27, pV_M28, pV_M29, pV_M30, pV_M31, pV_M32, pV_M33, pV_M34, pV_M35, pV_M40, pV_M41, pV_M42, pV_M43, rd_M1, rd_M2, rd_M3, rd_M4, rd_M5, rd_M6, rd_M7, rd_M8, rd_M9, rd_M10, rd_M11, rd_M12, rd_M13, rd_M14, rd_M15, rd_M16, rd_M17, rd_M18, rd_M19, wr_M1, wr_M2, wr_M3, wr_M4, wr_M5, wr_M6, wr_M7, wr_M8, wr_M9, wr_M10, wr_M11, wr_M12, wr_M13, wr_M14, wr_M15, wr_M16, wr_M17, wr_M18, wr_M19, J_l, J_neg, J_add, J_sub, J_mul, J_lt, J_le, J_eq, J_div2, J_rem2, J_shl1, J_orp, J_or, J_and, J_shr, J_ushr, J_max, J_min, J_abs, J_b0, ↓b0_ite, ↓b0_ite2, b0_ite, bI_r, bV_r, b01_ite, rZ_b, K_l, J_long, M_in, M_stepsTo, e]
theorem M_longOfStation (hl : 0 ≤ l ∧ l < 8) (ht : 0 ≤ t ∧ t < 20) : qM_longOfStation y (J l) (J t) (hi y TM g w m) = rI (J (cZ (m 3) l + t % 3)) (hi y TM g w m) := by
  unfold qM_longOfStation
  simp (disch := omega) only [↓isO_M, ↓gL_H, ↓pL_H, ↓gI_M1, ↓gI_M2, ↓gI_M3, ↓gI_M4, ↓gI_M5, ↓gI_M6, ↓gI_M13, ↓gI_M22, ↓gI_M23, ↓gI_M24, ↓gI_M25, ↓gI_M27, ↓gI_M28, ↓gI_M29, ↓gI_M30, ↓gI_M31, ↓gI_M32, ↓gI_M33, ↓gI_M34, ↓gI_M35, ↓gI_M40, ↓gI_M41, ↓gI_M42, ↓gI_M43, ↓pV_M1, ↓pV_M2, ↓pV_M3, ↓pV_M4, ↓pV_M5, ↓pV_M6, ↓pV_M13, ↓pV_M22, ↓pV_M23, ↓pV_M24, ↓pV_M25, ↓pV_M27, ↓pV_M28, ↓pV_M29, ↓pV_M30, ↓pV_M31, ↓pV_M32, ↓pV_M33, ↓pV_M34, ↓pV_M35, ↓pV_M40, ↓pV_M41, ↓pV_M42, ↓pV_M43, ↓gR_M0, ↓gR_M7, ↓gR_M8, ↓gR_M9, ↓gR_M10, ↓gR_M11, ↓gR_M12, ↓gR_M14, ↓gR_M15, ↓gR_M16, ↓gR_M17, ↓gR_M18, ↓gR_M19, ↓gR_M20, ↓gR_M21, ↓gR_M36, ↓gR_M37, ↓gR_M38, ↓gR_M39, ↓rd_M1, ↓rd_M2, ↓rd_M3, ↓rd_M4, ↓rd_M5, ↓rd_M6, ↓rd_M7, ↓rd_M8, ↓rd_M9, ↓rd_M10, ↓rd_M11, ↓rd_M12, ↓rd_M13, ↓rd_M14, ↓rd_M15, ↓rd_M16, ↓rd_M17, ↓rd_M18, ↓rd_M19, ↓wr_M1, ↓wr_M2, ↓wr_M3, ↓wr_M4, ↓wr_M5, ↓wr_M6, ↓wr_M7, ↓wr_M8, ↓wr_M9, ↓wr_M10, ↓wr_M11, ↓wr_M12, ↓wr_M13, ↓wr_M14, ↓wr_M15, ↓wr_M16, ↓wr_M17, ↓wr_M18, ↓wr_M19, pL_H, pV_M1, pV_M2, pV_M3, pV_M4, pV_M5, pV_M6, pV_M13, pV_M22, pV_M23, pV_M24, pV_M25, pV_M27, pV_M28, pV_M29, pV_M30, pV_M31, pV_M32, pV_M33, pV_M34, pV_M35, pV_M40, pV_M41, pV_M42, pV_M43, rd_M1, rd_M2, rd_M3, rd_M4, rd_M5, rd_M6, rd_M7, rd_M8, rd_M9, rd_M10, rd_M11, rd_M12, rd_M13, rd_M14, rd_M15, rd_M16, rd_M17, rd_M18, rd_M19, wr_M1, wr_M2, wr_M3, wr_M4, wr_M5, wr_M6, wr_M7, wr_M8, wr_M9, wr_M10, wr_M11, wr_M12, wr_M13, wr_M14, wr_M15, wr_M16, wr_M17, wr_M18, wr_M19, J_l, J_neg, J_add, J_sub, J_mul, J_lt, J_le, J_eq, J_div2, J_rem2, J_shl1, J_orp, J_or, J_and, J_shr, J_ushr, J_max, J_min, J_abs, J_b0, ↓b0_ite, ↓b0_ite2, b0_ite, bI_r, bV_r, b01_ite, rZ_b, K_l, J_long, M_in, M_oZ]
/-- stations of a line, up to t -/
def LySt (W : Int → Int) (m0 m : CT) (l t : Int) : Prop :=
  (∀ o, o ≠ 12 → o ≠ 13 → o ≠ 14 → m o = m0 o) ∧ (∀ c, 0 ≤ c → c < 1600 → m 12 c = SN W l c + cs W l t c) ∧ (∀ c, 0 ≤ c → c < 1600 → m 13 c = SMp W l t c) ∧ ∀ c, 0 ≤ c → c < 1600 → m 14 c = max (LN W l c) (ml W l t c)
def lsM (m : CT) (l p v : Int) : CT := rs (rs (rs m 12 (ru (m 12) p (m 12 p + 1))) 13 (ru (m 13) p (ior (m 13 p) (pw l)))) 14 (ru (m 14) p (max (m 14 p) v))
theorem LySt_s (hl : 0 ≤ l ∧ l < 8) (hg : LG W l) (hk : 0 ≤ t) (hk2 : t < cT W l) (h : LySt W m0 m l t) : LySt W m0 (lsM m l (sc W l t) (cZ W l + t % 3)) l (t + 1) := by
  obtain ⟨h1, h2, h3, h4⟩ := h
  have a1 := sc_in hg hk hk2
  have a2 := hg.1.2.2.1
  unfold lsM
  refine ⟨fun o o1 o2 o3 => ?_, fun c c1 c2 => ?_, fun c c1 c2 => ?_, fun c c1 c2 => ?_⟩
  · rw [rs_ne o3, rs_ne o2, rs_ne o1, h1 o o1 o2 o3]
  · simp (disch := omega) only [rs_same, rs_ne, rs_rs, ru_same, ru_ne, ne_eq]
    rw [cs_s hk]
    by_cases e : c = sc W l t
    · rw [e, ru_same, if_pos rfl, h2 _ a1.1 a1.2, Int.add_assoc]
    · rw [ru_ne e, if_neg e, h2 c c1 c2]
  · simp (disch := omega) only [rs_same, rs_ne, rs_rs, ru_same, ru_ne, ne_eq]
    rw [SMp_s hl hk]
    by_cases e : c = sc W l t
    · rw [e, ru_same, if_pos rfl, h3 _ a1.1 a1.2]
    · rw [ru_ne e, if_neg e, h3 c c1 c2]
  · simp (disch := omega) only [rs_same, rs_ne, rs_rs, ru_same, ru_ne, ne_eq]
    rw [ml_s hk]
    have a3 := ml_nn (W := W) (l := l) (t := t) (c := c) hk (by omega)
    by_cases e : c = sc W l t
    · rw [e, ru_same, if_pos rfl, h4 _ a1.1 a1.2]
      omega
    · rw [ru_ne e, if_neg e, h4 c c1 c2]
      omega
theorem SN_bd (hn : 0 ≤ n ∧ n ≤ 8) (h : ∀ l, 0 ≤ l → l < n → LB W l) : 0 ≤ SN W n c ∧ SN W n c ≤ 160 := by
  have := sm_bd (f := fun l => cs W l (cT W l) c) (a := 0) (b := 20) hn.1 (fun i h1 h2 => by
    have b1 := (h i h1 h2).2.1
    have := cnt_bd (P := fun s => sc W i s = c) (n := cT W i) (by omega)
    unfold cs
    omega)
  unfold SN
  omega
theorem cs_bd (h : 0 ≤ t) : 0 ≤ cs W l t c ∧ cs W l t c ≤ t := cnt_bd h
theorem ml_bd (hb : LB W l) (h : 0 ≤ t) : 0 ≤ ml W l t c ∧ ml W l t c ≤ 12 := by
  have a2 := hb.2.2.1
  refine mx_bd (by omega) h fun i h1 h2 => ?_
  unfold lf
  by_cases e : sc W l i = c
  · rw [if_pos e]; omega
  · rw [if_neg e]; omega
theorem LN_bd (hn : 0 ≤ n) (h : ∀ l, 0 ≤ l → l < n → LB W l) : 0 ≤ LN W n c ∧ LN W n c ≤ 12 := mx_bd (by omega) hn fun i h1 h2 => by
  have b1 := (h i h1 h2).2.1
  exact (ml_bd (h i h1 h2) (by omega)).2
theorem M_laysStations (hl : 0 ≤ l ∧ l < 8) (hg : ∀ i, 0 ≤ i → i ≤ l → LG W i) (hW : m0 3 = W) (h8 : m0 8 l = len W l) (h9 : ∀ i, 0 ≤ i → i ≤ len W l → m0 9 (400 * l + i) = Ps W l i) (h : LySt W m0 m l 0) : ∃ m', qM_laysStations y (J l) (hi y TM g w m) = rV (hi y TM g w m') ∧ LySt W m0 m' l (cT W l) := by
  have hgl := hg l hl.1 (Int.le_refl l)
  have b1 := hgl.1.2.1
  have b2 := hgl.1.2.2.1
  refine loopI (S := Int × CT) (fun k q => qM_laysStations_2 k y (J l) (J q.1) (hi y TM g w q.2)) (fun X => ∃ m', X = rV (hi y TM g w m') ∧ LySt W m0 m' l (cT W l)) (fun q => (0 ≤ q.1 ∧ q.1 ≤ cT W l) ∧ LySt W m0 q.2 l q.1) (fun q => cT W l - q.1) (by intro q hq; omega) (fun k q hq ih => ?_) (0, m) ⟨⟨by show (0 : Int) ≤ 0; omega, by show 0 ≤ cT W l; omega⟩, h⟩ (by show cT W l - 0 < 20000; omega)
  obtain ⟨t, u⟩ := q
  obtain ⟨⟨ht, ht2⟩, hu⟩ := hq
  change 0 ≤ t at ht
  change t ≤ cT W l at ht2
  change LySt W m0 u l t at hu
  have f3 : u 3 = W := by rw [hu.1 3 (by decide) (by decide) (by decide), hW]
  have f8 : u 8 l = len W l := by rw [hu.1 8 (by decide) (by decide) (by decide), h8]
  have f9 : ∀ i, 0 ≤ i → i ≤ len W l → u 9 (400 * l + i) = Ps W l i := by rw [hu.1 9 (by decide) (by decide) (by decide)]; exact h9
  show ∃ m', qM_laysStations_2_b (qM_laysStations_2 k) y (J l) (J t) (hi y TM g w u) = rV (hi y TM g w m') ∧ LySt W m0 m' l (cT W l)
  unfold qM_laysStations_2_b
  simp (disch := omega) only [↓isO_M, ↓gL_H, ↓pL_H, ↓gI_M1, ↓gI_M2, ↓gI_M3, ↓gI_M4, ↓gI_M5, ↓gI_M6, ↓gI_M13, ↓gI_M22, ↓gI_M23, ↓gI_M24, ↓gI_M25, ↓gI_M27, ↓gI_M28, ↓gI_M29, ↓gI_M30, ↓gI_M31, ↓gI_M32, ↓gI_M33, ↓gI_M34, ↓gI_M35, ↓gI_M40, ↓gI_M41, ↓gI_M42, ↓gI_M43, ↓pV_M1, ↓pV_M2, ↓pV_M3, ↓pV_M4, ↓pV_M5, ↓pV_M6, ↓pV_M13, ↓pV_M22, ↓pV_M23, ↓pV_M24, ↓pV_M25, ↓pV_M27, ↓pV_M28, ↓pV_M29, ↓pV_M30, ↓pV_M31, ↓pV_M32, ↓pV_M33, ↓pV_M34, ↓pV_M35, ↓pV_M40, ↓pV_M41, ↓pV_M42, ↓pV_M43, ↓gR_M0, ↓gR_M7, ↓gR_M8, ↓gR_M9, ↓gR_M10, ↓gR_M11, ↓gR_M12, ↓gR_M14, ↓gR_M15, ↓gR_M16, ↓gR_M17, ↓gR_M18, ↓gR_M19, ↓gR_M20, ↓gR_M21, ↓gR_M36, ↓gR_M37, ↓gR_M38, ↓gR_M39, ↓rd_M1, ↓rd_M2, ↓rd_M3, ↓rd_M4, ↓rd_M5, ↓rd_M6, ↓rd_M7, ↓rd_M8, ↓rd_M9, ↓rd_M10, ↓rd_M11, ↓rd_M12, ↓rd_M13, ↓rd_M14, ↓rd_M15, ↓rd_M16, ↓rd_M17, ↓rd_M18, ↓rd_M19, ↓wr_M1, ↓wr_M2, ↓wr_M3, ↓wr_M4, ↓wr_M5, ↓wr_M6, ↓wr_M7, ↓wr_M8, ↓wr_M9, ↓wr_M10, ↓wr_M11, ↓wr_M12, ↓wr_M13, ↓wr_M14, ↓wr_M15, ↓wr_M16, ↓wr_M17, ↓wr_M18, ↓wr_M19, pL_H, pV_M1, pV_M2, pV_M3, pV_M4, pV_M5, pV_M6, pV_M13, pV_M22, pV_M23, pV_M24, pV_M25, pV_M27, pV_M28, pV_M29, pV_M30, pV_M31, pV_M32, pV_M33, pV_M34, pV_M35, pV_M40, pV_M41, pV_M42, pV_M43, rd_M1, rd_M2, rd_M3, rd_M4, rd_M5, rd_M6, rd_M7, rd_M8, rd_M9, rd_M10, rd_M11, rd_M12, rd_M13, rd_M14, rd_M15, rd_M16, rd_M17, rd_M18, rd_M19, wr_M1, wr_M2, wr_M3, wr_M4, wr_M5, wr_M6, wr_M7, wr_M8, wr_M9, wr_M10, wr_M11, wr_M12, wr_M13, wr_M14, wr_M15, wr_M16, wr_M17, wr_M18, wr_M19, J_l, J_neg, J_add, J_sub, J_mul, J_lt, J_le, J_eq, J_div2, J_rem2, J_shl1, J_orp, J_or, J_and, J_shr, J_ushr, J_max, J_min, J_abs, J_b0, ↓b0_ite, ↓b0_ite2, b0_ite, bI_r, bV_r, b01_ite, rZ_b, K_l, J_long, M_in, M_oT, f3]
  split
  · have a1 := sc_in hgl ht (by omega)
    have x1 : qM_cellOf y (J l) (J t) (hi y TM g w u) = rI (J (sc W l t)) (hi y TM g w u) := by
      have := M_cellOf (y := y) (g := g) (w := w) (m := u) (t := t) hl (by rw [f3]; exact hgl) (by rw [f3]; exact f8) (by rw [f3]; exact f9) (by rw [f3]; omega)
      rw [this, f3]
    have f12 := hu.2.1 _ a1.1 a1.2
    have f13 := hu.2.2.1 _ a1.1 a1.2
    have f14 := hu.2.2.2 _ a1.1 a1.2
    have n13 := SMp_nn (W := W) (l := l) (k := t) (c := sc W l t)
    have n14 := ml_bd (W := W) (l := l) (t := t) (c := sc W l t) hgl.1 ht
    have n15 := LN_bd (W := W) (n := l) (c := sc W l t) hl.1 (fun i i1 i2 => (hg i i1 (by omega)).1)
    have hnext := ih (t + 1, lsM u l (sc W l t) (cZ W l + t % 3)) ⟨⟨by show 0 ≤ t + 1; omega, by show t + 1 ≤ cT W l; omega⟩, LySt_s hl hgl ht (by omega) hu⟩ (by show cT W l - (t + 1) < cT W l - t; omega)
    change ∃ m', qM_laysStations_2 k y (J l) (J (t + 1)) (hi y TM g w (lsM u l (sc W l t) (cZ W l + t % 3))) = _ ∧ _ at hnext
    simp (disch := first | assumption | omega) only [↓isO_M, ↓gL_H, ↓pL_H, ↓gI_M1, ↓gI_M2, ↓gI_M3, ↓gI_M4, ↓gI_M5, ↓gI_M6, ↓gI_M13, ↓gI_M22, ↓gI_M23, ↓gI_M24, ↓gI_M25, ↓gI_M27, ↓gI_M28, ↓gI_M29, ↓gI_M30, ↓gI_M31, ↓gI_M32, ↓gI_M33, ↓gI_M34, ↓gI_M35, ↓gI_M40, ↓gI_M41, ↓gI_M42, ↓gI_M43, ↓pV_M1, ↓pV_M2, ↓pV_M3, ↓pV_M4, ↓pV_M5, ↓pV_M6, ↓pV_M13, ↓pV_M22, ↓pV_M23, ↓pV_M24, ↓pV_M25, ↓pV_M27, ↓pV_M28, ↓pV_M29, ↓pV_M30, ↓pV_M31, ↓pV_M32, ↓pV_M33, ↓pV_M34, ↓pV_M35, ↓pV_M40, ↓pV_M41, ↓pV_M42, ↓pV_M43, ↓gR_M0, ↓gR_M7, ↓gR_M8, ↓gR_M9, ↓gR_M10, ↓gR_M11, ↓gR_M12, ↓gR_M14, ↓gR_M15, ↓gR_M16, ↓gR_M17, ↓gR_M18, ↓gR_M19, ↓gR_M20, ↓gR_M21, ↓gR_M36, ↓gR_M37, ↓gR_M38, ↓gR_M39, ↓rd_M1, ↓rd_M2, ↓rd_M3, ↓rd_M4, ↓rd_M5, ↓rd_M6, ↓rd_M7, ↓rd_M8, ↓rd_M9, ↓rd_M10, ↓rd_M11, ↓rd_M12, ↓rd_M13, ↓rd_M14, ↓rd_M15, ↓rd_M16, ↓rd_M17, ↓rd_M18, ↓rd_M19, ↓wr_M1, ↓wr_M2, ↓wr_M3, ↓wr_M4, ↓wr_M5, ↓wr_M6, ↓wr_M7, ↓wr_M8, ↓wr_M9, ↓wr_M10, ↓wr_M11, ↓wr_M12, ↓wr_M13, ↓wr_M14, ↓wr_M15, ↓wr_M16, ↓wr_M17, ↓wr_M18, ↓wr_M19, pL_H, pV_M1, pV_M2, pV_M3, pV_M4, pV_M5, pV_M6, pV_M13, pV_M22, pV_M23, pV_M24, pV_M25, pV_M27, pV_M28, pV_M29, pV_M30, pV_M31, pV_M32, pV_M33, pV_M34, pV_M35, pV_M40, pV_M41, pV_M42, pV_M43, rd_M1, rd_M2, rd_M3, rd_M4, rd_M5, rd_M6, rd_M7, rd_M8, rd_M9, rd_M10, rd_M11, rd_M12, rd_M13, rd_M14, rd_M15, rd_M16, rd_M17, rd_M18, rd_M19, wr_M1, wr_M2, wr_M3, wr_M4, wr_M5, wr_M6, wr_M7, wr_M8, wr_M9, wr_M10, wr_M11, wr_M12, wr_M13, wr_M14, wr_M15, wr_M16, wr_M17, wr_M18, wr_M19, J_l, J_neg, J_add, J_sub, J_mul, J_lt, J_le, J_eq, J_div2, J_rem2, J_shl1, J_orp, J_or, J_and, J_shr, J_ushr, J_max, J_min, J_abs, J_b0, ↓b0_ite, ↓b0_ite2, b0_ite, bI_r, bV_r, b01_ite, rZ_b, K_l, J_long, M_in, rs_same, rs_ne, rs_rs, ru_same, ru_ne, ne_eq, x1, M_longOfStation, f3]
    unfold qM_laysStations_76
    unfold lsM at hnext
    split
    · rw [Int.max_eq_right (by omega)] at hnext
      simp (disch := first | assumption | omega) only [↓isO_M, ↓gL_H, ↓pL_H, ↓gI_M1, ↓gI_M2, ↓gI_M3, ↓gI_M4, ↓gI_M5, ↓gI_M6, ↓gI_M13, ↓gI_M22, ↓gI_M23, ↓gI_M24, ↓gI_M25, ↓gI_M27, ↓gI_M28, ↓gI_M29, ↓gI_M30, ↓gI_M31, ↓gI_M32, ↓gI_M33, ↓gI_M34, ↓gI_M35, ↓gI_M40, ↓gI_M41, ↓gI_M42, ↓gI_M43, ↓pV_M1, ↓pV_M2, ↓pV_M3, ↓pV_M4, ↓pV_M5, ↓pV_M6, ↓pV_M13, ↓pV_M22, ↓pV_M23, ↓pV_M24, ↓pV_M25, ↓pV_M27, ↓pV_M28, ↓pV_M29, ↓pV_M30, ↓pV_M31, ↓pV_M32, ↓pV_M33, ↓pV_M34, ↓pV_M35, ↓pV_M40, ↓pV_M41, ↓pV_M42, ↓pV_M43, ↓gR_M0, ↓gR_M7, ↓gR_M8, ↓gR_M9, ↓gR_M10, ↓gR_M11, ↓gR_M12, ↓gR_M14, ↓gR_M15, ↓gR_M16, ↓gR_M17, ↓gR_M18, ↓gR_M19, ↓gR_M20, ↓gR_M21, ↓gR_M36, ↓gR_M37, ↓gR_M38, ↓gR_M39, ↓rd_M1, ↓rd_M2, ↓rd_M3, ↓rd_M4, ↓rd_M5, ↓rd_M6, ↓rd_M7, ↓rd_M8, ↓rd_M9, ↓rd_M10, ↓rd_M11, ↓rd_M12, ↓rd_M13, ↓rd_M14, ↓rd_M15, ↓rd_M16, ↓rd_M17, ↓rd_M18, ↓rd_M19, ↓wr_M1, ↓wr_M2, ↓wr_M3, ↓wr_M4, ↓wr_M5, ↓wr_M6, ↓wr_M7, ↓wr_M8, ↓wr_M9, ↓wr_M10, ↓wr_M11, ↓wr_M12, ↓wr_M13, ↓wr_M14, ↓wr_M15, ↓wr_M16, ↓wr_M17, ↓wr_M18, ↓wr_M19, pL_H, pV_M1, pV_M2, pV_M3, pV_M4, pV_M5, pV_M6, pV_M13, pV_M22, pV_M23, pV_M24, pV_M25, pV_M27, pV_M28, pV_M29, pV_M30, pV_M31, pV_M32, pV_M33, pV_M34, pV_M35, pV_M40, pV_M41, pV_M42, pV_M43, rd_M1, rd_M2, rd_M3, rd_M4, rd_M5, rd_M6, rd_M7, rd_M8, rd_M9, rd_M10, rd_M11, rd_M12, rd_M13, rd_M14, rd_M15, rd_M16, rd_M17, rd_M18, rd_M19, wr_M1, wr_M2, wr_M3, wr_M4, wr_M5, wr_M6, wr_M7, wr_M8, wr_M9, wr_M10, wr_M11, wr_M12, wr_M13, wr_M14, wr_M15, wr_M16, wr_M17, wr_M18, wr_M19, J_l, J_neg, J_add, J_sub, J_mul, J_lt, J_le, J_eq, J_div2, J_rem2, J_shl1, J_orp, J_or, J_and, J_shr, J_ushr, J_max, J_min, J_abs, J_b0, ↓b0_ite, ↓b0_ite2, b0_ite, bI_r, bV_r, b01_ite, rZ_b, K_l, J_long, M_in, rs_same, rs_ne, rs_rs, ru_same, ru_ne, ne_eq]
      exact hnext
    · rw [Int.max_eq_left (by omega)] at hnext
      simp (disch := first | assumption | omega) only [↓isO_M, ↓gL_H, ↓pL_H, ↓gI_M1, ↓gI_M2, ↓gI_M3, ↓gI_M4, ↓gI_M5, ↓gI_M6, ↓gI_M13, ↓gI_M22, ↓gI_M23, ↓gI_M24, ↓gI_M25, ↓gI_M27, ↓gI_M28, ↓gI_M29, ↓gI_M30, ↓gI_M31, ↓gI_M32, ↓gI_M33, ↓gI_M34, ↓gI_M35, ↓gI_M40, ↓gI_M41, ↓gI_M42, ↓gI_M43, ↓pV_M1, ↓pV_M2, ↓pV_M3, ↓pV_M4, ↓pV_M5, ↓pV_M6, ↓pV_M13, ↓pV_M22, ↓pV_M23, ↓pV_M24, ↓pV_M25, ↓pV_M27, ↓pV_M28, ↓pV_M29, ↓pV_M30, ↓pV_M31, ↓pV_M32, ↓pV_M33, ↓pV_M34, ↓pV_M35, ↓pV_M40, ↓pV_M41, ↓pV_M42, ↓pV_M43, ↓gR_M0, ↓gR_M7, ↓gR_M8, ↓gR_M9, ↓gR_M10, ↓gR_M11, ↓gR_M12, ↓gR_M14, ↓gR_M15, ↓gR_M16, ↓gR_M17, ↓gR_M18, ↓gR_M19, ↓gR_M20, ↓gR_M21, ↓gR_M36, ↓gR_M37, ↓gR_M38, ↓gR_M39, ↓rd_M1, ↓rd_M2, ↓rd_M3, ↓rd_M4, ↓rd_M5, ↓rd_M6, ↓rd_M7, ↓rd_M8, ↓rd_M9, ↓rd_M10, ↓rd_M11, ↓rd_M12, ↓rd_M13, ↓rd_M14, ↓rd_M15, ↓rd_M16, ↓rd_M17, ↓rd_M18, ↓rd_M19, ↓wr_M1, ↓wr_M2, ↓wr_M3, ↓wr_M4, ↓wr_M5, ↓wr_M6, ↓wr_M7, ↓wr_M8, ↓wr_M9, ↓wr_M10, ↓wr_M11, ↓wr_M12, ↓wr_M13, ↓wr_M14, ↓wr_M15, ↓wr_M16, ↓wr_M17, ↓wr_M18, ↓wr_M19, pL_H, pV_M1, pV_M2, pV_M3, pV_M4, pV_M5, pV_M6, pV_M13, pV_M22, pV_M23, pV_M24, pV_M25, pV_M27, pV_M28, pV_M29, pV_M30, pV_M31, pV_M32, pV_M33, pV_M34, pV_M35, pV_M40, pV_M41, pV_M42, pV_M43, rd_M1, rd_M2, rd_M3, rd_M4, rd_M5, rd_M6, rd_M7, rd_M8, rd_M9, rd_M10, rd_M11, rd_M12, rd_M13, rd_M14, rd_M15, rd_M16, rd_M17, rd_M18, rd_M19, wr_M1, wr_M2, wr_M3, wr_M4, wr_M5, wr_M6, wr_M7, wr_M8, wr_M9, wr_M10, wr_M11, wr_M12, wr_M13, wr_M14, wr_M15, wr_M16, wr_M17, wr_M18, wr_M19, J_l, J_neg, J_add, J_sub, J_mul, J_lt, J_le, J_eq, J_div2, J_rem2, J_shl1, J_orp, J_or, J_and, J_shr, J_ushr, J_max, J_min, J_abs, J_b0, ↓b0_ite, ↓b0_ite2, b0_ite, bI_r, bV_r, b01_ite, rZ_b, K_l, J_long, M_in, rs_same, rs_ne, rs_rs, ru_same, ru_ne, ne_eq]
      exact hnext
  · rw [show t = cT W l by omega] at hu
    exact ⟨u, rfl, hu⟩
/-- all lines before n are laid -/
def Lyd (W : Int → Int) (m0 m : CT) (n : Int) : Prop :=
  (∀ o, o ≠ 8 → o ≠ 9 → o ≠ 10 → o ≠ 11 → o ≠ 12 → o ≠ 13 → o ≠ 14 → m o = m0 o) ∧ (∀ l, 0 ≤ l → l < n → m 8 l = len W l ∧ ∀ i, 0 ≤ i → i ≤ len W l → m 9 (400 * l + i) = Ps W l i) ∧ (∀ c, 0 ≤ c → c < 1600 → m 10 c = LO W n c ∧ m 12 c = SN W n c ∧ m 13 c = SM W n c ∧ m 14 c = LN W n c) ∧ ∀ j, 0 ≤ j → j < 6400 → m 11 j = LVs W n j
theorem M_lays67 (hn : 0 ≤ n ∧ n ≤ 8) (hg : ∀ i, 0 ≤ i → i < n → LG W i) (hW : m0 3 = W) (hn0 : m0 0 6 = n) (h : Lyd W m0 m 0) : ∃ m', qM_laysLines_67 LF y (J 0) (hi y TM g w m) = rV (hi y TM g w m') ∧ Lyd W m0 m' n := by
  refine loopI (S := Int × CT) (fun k q => qM_laysLines_67 k y (J q.1) (hi y TM g w q.2)) (fun X => ∃ m', X = rV (hi y TM g w m') ∧ Lyd W m0 m' n) (fun q => (0 ≤ q.1 ∧ q.1 ≤ n) ∧ Lyd W m0 q.2 q.1) (fun q => n - q.1) (by intro q hq; omega) (fun k q hq ih => ?_) (0, m) ⟨⟨by show (0 : Int) ≤ 0; omega, by show 0 ≤ n; omega⟩, h⟩ (by show n - 0 < 20000; omega)
  obtain ⟨l, u⟩ := q
  obtain ⟨⟨hl, hl2⟩, hu⟩ := hq
  change 0 ≤ l at hl
  change l ≤ n at hl2
  change Lyd W m0 u l at hu
  have f3 : u 3 = W := by rw [hu.1 3 (by decide) (by decide) (by decide) (by decide) (by decide) (by decide) (by decide), hW]
  have f0 : u 0 6 = n := by rw [hu.1 0 (by decide) (by decide) (by decide) (by decide) (by decide) (by decide) (by decide), hn0]
  show ∃ m', qM_laysLines_67_b (qM_laysLines_67 k) y (J l) (hi y TM g w u) = rV (hi y TM g w m') ∧ Lyd W m0 m' n
  unfold qM_laysLines_67_b
  simp (disch := omega) only [↓isO_M, ↓gL_H, ↓pL_H, ↓gI_M1, ↓gI_M2, ↓gI_M3, ↓gI_M4, ↓gI_M5, ↓gI_M6, ↓gI_M13, ↓gI_M22, ↓gI_M23, ↓gI_M24, ↓gI_M25, ↓gI_M27, ↓gI_M28, ↓gI_M29, ↓gI_M30, ↓gI_M31, ↓gI_M32, ↓gI_M33, ↓gI_M34, ↓gI_M35, ↓gI_M40, ↓gI_M41, ↓gI_M42, ↓gI_M43, ↓pV_M1, ↓pV_M2, ↓pV_M3, ↓pV_M4, ↓pV_M5, ↓pV_M6, ↓pV_M13, ↓pV_M22, ↓pV_M23, ↓pV_M24, ↓pV_M25, ↓pV_M27, ↓pV_M28, ↓pV_M29, ↓pV_M30, ↓pV_M31, ↓pV_M32, ↓pV_M33, ↓pV_M34, ↓pV_M35, ↓pV_M40, ↓pV_M41, ↓pV_M42, ↓pV_M43, ↓gR_M0, ↓gR_M7, ↓gR_M8, ↓gR_M9, ↓gR_M10, ↓gR_M11, ↓gR_M12, ↓gR_M14, ↓gR_M15, ↓gR_M16, ↓gR_M17, ↓gR_M18, ↓gR_M19, ↓gR_M20, ↓gR_M21, ↓gR_M36, ↓gR_M37, ↓gR_M38, ↓gR_M39, ↓rd_M1, ↓rd_M2, ↓rd_M3, ↓rd_M4, ↓rd_M5, ↓rd_M6, ↓rd_M7, ↓rd_M8, ↓rd_M9, ↓rd_M10, ↓rd_M11, ↓rd_M12, ↓rd_M13, ↓rd_M14, ↓rd_M15, ↓rd_M16, ↓rd_M17, ↓rd_M18, ↓rd_M19, ↓wr_M1, ↓wr_M2, ↓wr_M3, ↓wr_M4, ↓wr_M5, ↓wr_M6, ↓wr_M7, ↓wr_M8, ↓wr_M9, ↓wr_M10, ↓wr_M11, ↓wr_M12, ↓wr_M13, ↓wr_M14, ↓wr_M15, ↓wr_M16, ↓wr_M17, ↓wr_M18, ↓wr_M19, pL_H, pV_M1, pV_M2, pV_M3, pV_M4, pV_M5, pV_M6, pV_M13, pV_M22, pV_M23, pV_M24, pV_M25, pV_M27, pV_M28, pV_M29, pV_M30, pV_M31, pV_M32, pV_M33, pV_M34, pV_M35, pV_M40, pV_M41, pV_M42, pV_M43, rd_M1, rd_M2, rd_M3, rd_M4, rd_M5, rd_M6, rd_M7, rd_M8, rd_M9, rd_M10, rd_M11, rd_M12, rd_M13, rd_M14, rd_M15, rd_M16, rd_M17, rd_M18, rd_M19, wr_M1, wr_M2, wr_M3, wr_M4, wr_M5, wr_M6, wr_M7, wr_M8, wr_M9, wr_M10, wr_M11, wr_M12, wr_M13, wr_M14, wr_M15, wr_M16, wr_M17, wr_M18, wr_M19, J_l, J_neg, J_add, J_sub, J_mul, J_lt, J_le, J_eq, J_div2, J_rem2, J_shl1, J_orp, J_or, J_and, J_shr, J_ushr, J_max, J_min, J_abs, J_b0, ↓b0_ite, ↓b0_ite2, b0_ite, bI_r, bV_r, b01_ite, rZ_b, K_l, J_long, M_in, f0]
  by_cases hc : l < n
  · rw [if_pos hc]
    have hgl := hg l hl hc
    have hl8 : 0 ≤ l ∧ l < 8 := by omega
    have b1 := hgl.1.1
    have b2 := hgl.1.2.2.2 0 (by omega) (by omega)
    have p0 := Ps_0 hgl
    have a1 := Ps_in hgl (k := 0) (by omega) (by have := len_bd hgl.1; omega)
    have f10 := (hu.2.2.1 _ a1.1 a1.2).1
    have n10 := LO_nn (W := W) (l := l) (c := Ps W l 0)
    simp (disch := first | assumption | omega) only [↓isO_M, ↓gL_H, ↓pL_H, ↓gI_M1, ↓gI_M2, ↓gI_M3, ↓gI_M4, ↓gI_M5, ↓gI_M6, ↓gI_M13, ↓gI_M22, ↓gI_M23, ↓gI_M24, ↓gI_M25, ↓gI_M27, ↓gI_M28, ↓gI_M29, ↓gI_M30, ↓gI_M31, ↓gI_M32, ↓gI_M33, ↓gI_M34, ↓gI_M35, ↓gI_M40, ↓gI_M41, ↓gI_M42, ↓gI_M43, ↓pV_M1, ↓pV_M2, ↓pV_M3, ↓pV_M4, ↓pV_M5, ↓pV_M6, ↓pV_M13, ↓pV_M22, ↓pV_M23, ↓pV_M24, ↓pV_M25, ↓pV_M27, ↓pV_M28, ↓pV_M29, ↓pV_M30, ↓pV_M31, ↓pV_M32, ↓pV_M33, ↓pV_M34, ↓pV_M35, ↓pV_M40, ↓pV_M41, ↓pV_M42, ↓pV_M43, ↓gR_M0, ↓gR_M7, ↓gR_M8, ↓gR_M9, ↓gR_M10, ↓gR_M11, ↓gR_M12, ↓gR_M14, ↓gR_M15, ↓gR_M16, ↓gR_M17, ↓gR_M18, ↓gR_M19, ↓gR_M20, ↓gR_M21, ↓gR_M36, ↓gR_M37, ↓gR_M38, ↓gR_M39, ↓rd_M1, ↓rd_M2, ↓rd_M3, ↓rd_M4, ↓rd_M5, ↓rd_M6, ↓rd_M7, ↓rd_M8, ↓rd_M9, ↓rd_M10, ↓rd_M11, ↓rd_M12, ↓rd_M13, ↓rd_M14, ↓rd_M15, ↓rd_M16, ↓rd_M17, ↓rd_M18, ↓rd_M19, ↓wr_M1, ↓wr_M2, ↓wr_M3, ↓wr_M4, ↓wr_M5, ↓wr_M6, ↓wr_M7, ↓wr_M8, ↓wr_M9, ↓wr_M10, ↓wr_M11, ↓wr_M12, ↓wr_M13, ↓wr_M14, ↓wr_M15, ↓wr_M16, ↓wr_M17, ↓wr_M18, ↓wr_M19, pL_H, pV_M1, pV_M2, pV_M3, pV_M4, pV_M5, pV_M6, pV_M13, pV_M22, pV_M23, pV_M24, pV_M25, pV_M27, pV_M28, pV_M29, pV_M30, pV_M31, pV_M32, pV_M33, pV_M34, pV_M35, pV_M40, pV_M41, pV_M42, pV_M43, rd_M1, rd_M2, rd_M3, rd_M4, rd_M5, rd_M6, rd_M7, rd_M8, rd_M9, rd_M10, rd_M11, rd_M12, rd_M13, rd_M14, rd_M15, rd_M16, rd_M17, rd_M18, rd_M19, wr_M1, wr_M2, wr_M3, wr_M4, wr_M5, wr_M6, wr_M7, wr_M8, wr_M9, wr_M10, wr_M11, wr_M12, wr_M13, wr_M14, wr_M15, wr_M16, wr_M17, wr_M18, wr_M19, J_l, J_neg, J_add, J_sub, J_mul, J_lt, J_le, J_eq, J_div2, J_rem2, J_shl1, J_orp, J_or, J_and, J_shr, J_ushr, J_max, J_min, J_abs, J_b0, ↓b0_ite, ↓b0_ite2, b0_ite, bI_r, bV_r, b01_ite, rZ_b, K_l, J_long, M_in, rs_same, rs_ne, rs_rs, ru_same, ru_ne, ne_eq, M_px, M_py, M_cell, f3, ← p0]
    generalize hX : rs (rs (rs u 8 (ru (u 8) l 0)) 9 (ru (u 9) (400 * l) (Ps W l 0))) 10 (ru (u 10) (Ps W l 0) (ior (u 10 (Ps W l 0)) (pw l))) = u1
    have hR : LyR W u u1 l (pr W l 0) := by
      subst hX
      rw [pr_0]
      refine ⟨fun o o1 o2 o3 o4 => ?_, ?_, fun i hi => ?_, fun i i1 i2 => ?_, fun i hi => ?_, fun c c1 c2 => ?_, fun j j1 j2 => ?_⟩
      · rw [rs_ne o3, rs_ne o2, rs_ne o1]
      · simp (disch := omega) only [rs_same, rs_ne, rs_rs, ru_same, ru_ne, ne_eq]
      · simp (disch := omega) only [rs_same, rs_ne, rs_rs, ru_same, ru_ne, ne_eq]
      · simp (disch := omega) only [rs_same, rs_ne, rs_rs, ru_same, ru_ne, ne_eq]
        rw [show i = 0 by omega, Int.add_zero, ru_same]
      · simp (disch := omega) only [rs_same, rs_ne, rs_rs, ru_same, ru_ne, ne_eq]
      · simp (disch := omega) only [rs_same, rs_ne, rs_rs, ru_same, ru_ne, ne_eq]
        rw [LOp_0 hl8]
        by_cases e : c = Ps W l 0
        · rw [e, ru_same, if_pos rfl, f10]
        · rw [ru_ne e, if_neg e, (hu.2.2.1 c c1 c2).1]
      · simp (disch := omega) only [rs_same, rs_ne, rs_rs, ru_same, ru_ne, ne_eq]
        rw [LVp_0, hu.2.2.2 j j1 j2]
    -- the runs
    have runs : ∃ u2, qM_laysLines_123 (qM_laysLines_67 k) LF y (J l) (J 0) (hi y TM g w u1) = qM_laysLines_147 (qM_laysLines_67 k) y (J l) (hi y TM g w u2) ∧ LyR W u u2 l (len W l) := by
      refine loopI (S := Int × CT) (fun k2 q => qM_laysLines_123 (qM_laysLines_67 k) k2 y (J l) (J q.1) (hi y TM g w q.2)) (fun X => ∃ u2, X = qM_laysLines_147 (qM_laysLines_67 k) y (J l) (hi y TM g w u2) ∧ LyR W u u2 l (len W l)) (fun q => (0 ≤ q.1 ∧ q.1 ≤ cN W l - 1) ∧ LyR W u q.2 l (pr W l q.1)) (fun q => cN W l - 1 - q.1) (by intro q hq; omega) (fun k2 q hq ih2 => ?_) (0, u1) ⟨⟨by show (0 : Int) ≤ 0; omega, by show 0 ≤ cN W l - 1; omega⟩, hR⟩ (by show cN W l - 1 - 0 < 20000; omega)
      obtain ⟨r, v⟩ := q
      obtain ⟨⟨hr, hr2⟩, hv⟩ := hq
      change 0 ≤ r at hr
      change r ≤ cN W l - 1 at hr2
      change LyR W u v l (pr W l r) at hv
      have g3 : v 3 = W := by rw [hv.1 3 (by decide) (by decide) (by decide) (by decide), f3]
      show ∃ u2, qM_laysLines_123_b (qM_laysLines_67 k) (qM_laysLines_123 (qM_laysLines_67 k) k2) y (J l) (J r) (hi y TM g w v) = qM_laysLines_147 (qM_laysLines_67 k) y (J l) (hi y TM g w u2) ∧ LyR W u u2 l (len W l)
      unfold qM_laysLines_123_b
      simp (disch := omega) only [↓isO_M, ↓gL_H, ↓pL_H, ↓gI_M1, ↓gI_M2, ↓gI_M3, ↓gI_M4, ↓gI_M5, ↓gI_M6, ↓gI_M13, ↓gI_M22, ↓gI_M23, ↓gI_M24, ↓gI_M25, ↓gI_M27, ↓gI_M28, ↓gI_M29, ↓gI_M30, ↓gI_M31, ↓gI_M32, ↓gI_M33, ↓gI_M34, ↓gI_M35, ↓gI_M40, ↓gI_M41, ↓gI_M42, ↓gI_M43, ↓pV_M1, ↓pV_M2, ↓pV_M3, ↓pV_M4, ↓pV_M5, ↓pV_M6, ↓pV_M13, ↓pV_M22, ↓pV_M23, ↓pV_M24, ↓pV_M25, ↓pV_M27, ↓pV_M28, ↓pV_M29, ↓pV_M30, ↓pV_M31, ↓pV_M32, ↓pV_M33, ↓pV_M34, ↓pV_M35, ↓pV_M40, ↓pV_M41, ↓pV_M42, ↓pV_M43, ↓gR_M0, ↓gR_M7, ↓gR_M8, ↓gR_M9, ↓gR_M10, ↓gR_M11, ↓gR_M12, ↓gR_M14, ↓gR_M15, ↓gR_M16, ↓gR_M17, ↓gR_M18, ↓gR_M19, ↓gR_M20, ↓gR_M21, ↓gR_M36, ↓gR_M37, ↓gR_M38, ↓gR_M39, ↓rd_M1, ↓rd_M2, ↓rd_M3, ↓rd_M4, ↓rd_M5, ↓rd_M6, ↓rd_M7, ↓rd_M8, ↓rd_M9, ↓rd_M10, ↓rd_M11, ↓rd_M12, ↓rd_M13, ↓rd_M14, ↓rd_M15, ↓rd_M16, ↓rd_M17, ↓rd_M18, ↓rd_M19, ↓wr_M1, ↓wr_M2, ↓wr_M3, ↓wr_M4, ↓wr_M5, ↓wr_M6, ↓wr_M7, ↓wr_M8, ↓wr_M9, ↓wr_M10, ↓wr_M11, ↓wr_M12, ↓wr_M13, ↓wr_M14, ↓wr_M15, ↓wr_M16, ↓wr_M17, ↓wr_M18, ↓wr_M19, pL_H, pV_M1, pV_M2, pV_M3, pV_M4, pV_M5, pV_M6, pV_M13, pV_M22, pV_M23, pV_M24, pV_M25, pV_M27, pV_M28, pV_M29, pV_M30, pV_M31, pV_M32, pV_M33, pV_M34, pV_M35, pV_M40, pV_M41, pV_M42, pV_M43, rd_M1, rd_M2, rd_M3, rd_M4, rd_M5, rd_M6, rd_M7, rd_M8, rd_M9, rd_M10, rd_M11, rd_M12, rd_M13, rd_M14, rd_M15, rd_M16, rd_M17, rd_M18, rd_M19, wr_M1, wr_M2, wr_M3, wr_M4, wr_M5, wr_M6, wr_M7, wr_M8, wr_M9, wr_M10, wr_M11, wr_M12, wr_M13, wr_M14, wr_M15, wr_M16, wr_M17, wr_M18, wr_M19, J_l, J_neg, J_add, J_sub, J_mul, J_lt, J_le, J_eq, J_div2, J_rem2, J_shl1, J_orp, J_or, J_and, J_shr, J_ushr, J_max, J_min, J_abs, J_b0, ↓b0_ite, ↓b0_ite2, b0_ite, bI_r, bV_r, b01_ite, rZ_b, K_l, J_long, M_in, M_oN, g3]
      by_cases hc2 : r + 1 < cN W l
      · obtain ⟨v', e1, e2⟩ := M_laysRun (y := y) (g := g) (w := w) hl8 hgl f3 hr (by omega) hv
        rw [if_pos hc2]
        simp (disch := omega) only [↓isO_M, ↓gL_H, ↓pL_H, ↓gI_M1, ↓gI_M2, ↓gI_M3, ↓gI_M4, ↓gI_M5, ↓gI_M6, ↓gI_M13, ↓gI_M22, ↓gI_M23, ↓gI_M24, ↓gI_M25, ↓gI_M27, ↓gI_M28, ↓gI_M29, ↓gI_M30, ↓gI_M31, ↓gI_M32, ↓gI_M33, ↓gI_M34, ↓gI_M35, ↓gI_M40, ↓gI_M41, ↓gI_M42, ↓gI_M43, ↓pV_M1, ↓pV_M2, ↓pV_M3, ↓pV_M4, ↓pV_M5, ↓pV_M6, ↓pV_M13, ↓pV_M22, ↓pV_M23, ↓pV_M24, ↓pV_M25, ↓pV_M27, ↓pV_M28, ↓pV_M29, ↓pV_M30, ↓pV_M31, ↓pV_M32, ↓pV_M33, ↓pV_M34, ↓pV_M35, ↓pV_M40, ↓pV_M41, ↓pV_M42, ↓pV_M43, ↓gR_M0, ↓gR_M7, ↓gR_M8, ↓gR_M9, ↓gR_M10, ↓gR_M11, ↓gR_M12, ↓gR_M14, ↓gR_M15, ↓gR_M16, ↓gR_M17, ↓gR_M18, ↓gR_M19, ↓gR_M20, ↓gR_M21, ↓gR_M36, ↓gR_M37, ↓gR_M38, ↓gR_M39, ↓rd_M1, ↓rd_M2, ↓rd_M3, ↓rd_M4, ↓rd_M5, ↓rd_M6, ↓rd_M7, ↓rd_M8, ↓rd_M9, ↓rd_M10, ↓rd_M11, ↓rd_M12, ↓rd_M13, ↓rd_M14, ↓rd_M15, ↓rd_M16, ↓rd_M17, ↓rd_M18, ↓rd_M19, ↓wr_M1, ↓wr_M2, ↓wr_M3, ↓wr_M4, ↓wr_M5, ↓wr_M6, ↓wr_M7, ↓wr_M8, ↓wr_M9, ↓wr_M10, ↓wr_M11, ↓wr_M12, ↓wr_M13, ↓wr_M14, ↓wr_M15, ↓wr_M16, ↓wr_M17, ↓wr_M18, ↓wr_M19, pL_H, pV_M1, pV_M2, pV_M3, pV_M4, pV_M5, pV_M6, pV_M13, pV_M22, pV_M23, pV_M24, pV_M25, pV_M27, pV_M28, pV_M29, pV_M30, pV_M31, pV_M32, pV_M33, pV_M34, pV_M35, pV_M40, pV_M41, pV_M42, pV_M43, rd_M1, rd_M2, rd_M3, rd_M4, rd_M5, rd_M6, rd_M7, rd_M8, rd_M9, rd_M10, rd_M11, rd_M12, rd_M13, rd_M14, rd_M15, rd_M16, rd_M17, rd_M18, rd_M19, wr_M1, wr_M2, wr_M3, wr_M4, wr_M5, wr_M6, wr_M7, wr_M8, wr_M9, wr_M10, wr_M11, wr_M12, wr_M13, wr_M14, wr_M15, wr_M16, wr_M17, wr_M18, wr_M19, J_l, J_neg, J_add, J_sub, J_mul, J_lt, J_le, J_eq, J_div2, J_rem2, J_shl1, J_orp, J_or, J_and, J_shr, J_ushr, J_max, J_min, J_abs, J_b0, ↓b0_ite, ↓b0_ite2, b0_ite, bI_r, bV_r, b01_ite, rZ_b, K_l, J_long, M_in, e1]
        exact ih2 (r + 1, v') ⟨⟨by show 0 ≤ r + 1; omega, by show r + 1 ≤ cN W l - 1; omega⟩, e2⟩ (by show cN W l - 1 - (r + 1) < cN W l - 1 - r; omega)
      · rw [if_neg hc2]
        rw [show r = cN W l - 1 by omega] at hv
        exact ⟨v, rfl, hv⟩
    obtain ⟨u2, r1, r2⟩ := runs
    rw [r1]
    have g3 : u2 3 = W := by rw [r2.1 3 (by decide) (by decide) (by decide) (by decide), f3]
    have hS : LySt W u2 u2 l 0 := by
      refine ⟨fun o _ _ _ => rfl, fun c c1 c2 => ?_, fun c c1 c2 => ?_, fun c c1 c2 => ?_⟩
      · rw [r2.1 12 (by decide) (by decide) (by decide) (by decide), (hu.2.2.1 c c1 c2).2.1, cs_0, Int.add_zero]
      · rw [r2.1 13 (by decide) (by decide) (by decide) (by decide), (hu.2.2.1 c c1 c2).2.2.1, SMp_0]
      · rw [r2.1 14 (by decide) (by decide) (by decide) (by decide), (hu.2.2.1 c c1 c2).2.2.2, ml_0]
        have := LN_bd (W := W) (n := l) (c := c) hl (fun i i1 i2 => (hg i i1 (by omega)).1)
        omega
    obtain ⟨u3, s1, s2⟩ := M_laysStations (y := y) (g := g) (w := w) hl8 (fun i i1 i2 => hg i i1 (by omega)) g3 r2.2.1 r2.2.2.2.1 hS
    unfold qM_laysLines_147
    simp (disch := omega) only [↓isO_M, ↓gL_H, ↓pL_H, ↓gI_M1, ↓gI_M2, ↓gI_M3, ↓gI_M4, ↓gI_M5, ↓gI_M6, ↓gI_M13, ↓gI_M22, ↓gI_M23, ↓gI_M24, ↓gI_M25, ↓gI_M27, ↓gI_M28, ↓gI_M29, ↓gI_M30, ↓gI_M31, ↓gI_M32, ↓gI_M33, ↓gI_M34, ↓gI_M35, ↓gI_M40, ↓gI_M41, ↓gI_M42, ↓gI_M43, ↓pV_M1, ↓pV_M2, ↓pV_M3, ↓pV_M4, ↓pV_M5, ↓pV_M6, ↓pV_M13, ↓pV_M22, ↓pV_M23, ↓pV_M24, ↓pV_M25, ↓pV_M27, ↓pV_M28, ↓pV_M29, ↓pV_M30, ↓pV_M31, ↓pV_M32, ↓pV_M33, ↓pV_M34, ↓pV_M35, ↓pV_M40, ↓pV_M41, ↓pV_M42, ↓pV_M43, ↓gR_M0, ↓gR_M7, ↓gR_M8, ↓gR_M9, ↓gR_M10, ↓gR_M11, ↓gR_M12, ↓gR_M14, ↓gR_M15, ↓gR_M16, ↓gR_M17, ↓gR_M18, ↓gR_M19, ↓gR_M20, ↓gR_M21, ↓gR_M36, ↓gR_M37, ↓gR_M38, ↓gR_M39, ↓rd_M1, ↓rd_M2, ↓rd_M3, ↓rd_M4, ↓rd_M5, ↓rd_M6, ↓rd_M7, ↓rd_M8, ↓rd_M9, ↓rd_M10, ↓rd_M11, ↓rd_M12, ↓rd_M13, ↓rd_M14, ↓rd_M15, ↓rd_M16, ↓rd_M17, ↓rd_M18, ↓rd_M19, ↓wr_M1, ↓wr_M2, ↓wr_M3, ↓wr_M4, ↓wr_M5, ↓wr_M6, ↓wr_M7, ↓wr_M8, ↓wr_M9, ↓wr_M10, ↓wr_M11, ↓wr_M12, ↓wr_M13, ↓wr_M14, ↓wr_M15, ↓wr_M16, ↓wr_M17, ↓wr_M18, ↓wr_M19, pL_H, pV_M1, pV_M2, pV_M3, pV_M4, pV_M5, pV_M6, pV_M13, pV_M22, pV_M23, pV_M24, pV_M25, pV_M27, pV_M28, pV_M29, pV_M30, pV_M31, pV_M32, pV_M33, pV_M34, pV_M35, pV_M40, pV_M41, pV_M42, pV_M43, rd_M1, rd_M2, rd_M3, rd_M4, rd_M5, rd_M6, rd_M7, rd_M8, rd_M9, rd_M10, rd_M11, rd_M12, rd_M13, rd_M14, rd_M15, rd_M16, rd_M17, rd_M18, rd_M19, wr_M1, wr_M2, wr_M3, wr_M4, wr_M5, wr_M6, wr_M7, wr_M8, wr_M9, wr_M10, wr_M11, wr_M12, wr_M13, wr_M14, wr_M15, wr_M16, wr_M17, wr_M18, wr_M19, J_l, J_neg, J_add, J_sub, J_mul, J_lt, J_le, J_eq, J_div2, J_rem2, J_shl1, J_orp, J_or, J_and, J_shr, J_ushr, J_max, J_min, J_abs, J_b0, ↓b0_ite, ↓b0_ite2, b0_ite, bI_r, bV_r, b01_ite, rZ_b, K_l, J_long, M_in, s1]
    refine ih (l + 1, u3) ⟨⟨by show 0 ≤ l + 1; omega, by show l + 1 ≤ n; omega⟩, ?_⟩ (by show n - (l + 1) < n - l; omega)
    show Lyd W m0 u3 (l + 1)
    refine ⟨fun o o1 o2 o3 o4 o5 o6 o7 => ?_, fun i i1 i2 => ?_, fun c c1 c2 => ?_, fun j j1 j2 => ?_⟩
    · rw [s2.1 o o5 o6 o7, r2.1 o o1 o2 o3 o4, hu.1 o o1 o2 o3 o4 o5 o6 o7]
    · rw [s2.1 8 (by decide) (by decide) (by decide), s2.1 9 (by decide) (by decide) (by decide)]
      by_cases e : i = l
      · rw [e]
        exact ⟨r2.2.1, r2.2.2.2.1⟩
      · have x := hu.2.1 i i1 (by omega)
        refine ⟨by rw [r2.2.2.1 i e]; exact x.1, fun q q1 q2 => ?_⟩
        have := len_bd (hg i i1 (by omega)).1
        rw [r2.2.2.2.2.1 _ (by omega)]
        exact x.2 q q1 q2
    · refine ⟨?_, ?_, ?_, ?_⟩
      · rw [s2.1 10 (by decide) (by decide) (by decide), r2.2.2.2.2.2.1 c c1 c2, LOp_end]
      · rw [s2.2.1 c c1 c2, SN_s hl]
      · rw [s2.2.2.1 c c1 c2, SMp_end]
      · rw [s2.2.2.2 c c1 c2, LN_s hl]
    · rw [s2.1 11 (by decide) (by decide) (by decide), r2.2.2.2.2.2.2 j j1 j2, LVp_end]
  · rw [if_neg hc]
    rw [show l = n by omega] at hu
    exact ⟨u, rfl, hu⟩
theorem LO_z : LO W 0 c = 0 := mk_zero (by omega) fun i h1 h2 h3 => by omega
theorem SM_z : SM W 0 c = 0 := mk_zero (by omega) fun i h1 h2 h3 => by omega
theorem LVs_z : LVs W 0 c = 0 := mk_zero (by omega) fun i h1 h2 h3 => by omega
theorem SP_z : SP W 0 c = 0 := mk_zero (by omega) fun i h1 h2 h3 => by omega
theorem M_laysLines (hn : 0 ≤ n ∧ n ≤ 8) (hg : ∀ i, 0 ≤ i → i < n → LG W i) (hW : m 3 = W) (hn0 : m 0 6 = n) : ∃ m', qM_laysLines y (hi y TM g w m) = rV (hi y TM g w m') ∧ Lyd W m m' n := by
  have k1 : ∃ u, qM_laysLines_2 LF y (J 0) (hi y TM g w m) = qM_laysLines_45 LF y (J 0) (hi y TM g w u) ∧ (∀ o, o ≠ 10 → o ≠ 12 → o ≠ 13 → o ≠ 14 → u o = m o) ∧ ∀ c, 0 ≤ c → c < 1600 → u 10 c = 0 ∧ u 12 c = 0 ∧ u 13 c = 0 ∧ u 14 c = 0 := by
    refine loopI (S := Int × CT) (fun k q => qM_laysLines_2 k y (J q.1) (hi y TM g w q.2)) (fun X => ∃ u, X = qM_laysLines_45 LF y (J 0) (hi y TM g w u) ∧ (∀ o, o ≠ 10 → o ≠ 12 → o ≠ 13 → o ≠ 14 → u o = m o) ∧ ∀ c, 0 ≤ c → c < 1600 → u 10 c = 0 ∧ u 12 c = 0 ∧ u 13 c = 0 ∧ u 14 c = 0) (fun q => (0 ≤ q.1 ∧ q.1 ≤ 1600) ∧ (∀ o, o ≠ 10 → o ≠ 12 → o ≠ 13 → o ≠ 14 → q.2 o = m o) ∧ ∀ c, 0 ≤ c → c < q.1 → q.2 10 c = 0 ∧ q.2 12 c = 0 ∧ q.2 13 c = 0 ∧ q.2 14 c = 0) (fun q => 1600 - q.1) (by intro q hq; omega) (fun k q hq ih => ?_) (0, m) ⟨⟨by show (0 : Int) ≤ 0; omega, by show (0 : Int) ≤ 1600; omega⟩, fun o _ _ _ _ => rfl, fun c c1 c2 => by change c < 0 at c2; omega⟩ (by show (1600 : Int) - 0 < 20000; omega)
    obtain ⟨t, u⟩ := q
    obtain ⟨⟨ht, ht2⟩, hu1, hu2⟩ := hq
    change 0 ≤ t at ht
    change t ≤ 1600 at ht2
    change ∀ o, o ≠ 10 → o ≠ 12 → o ≠ 13 → o ≠ 14 → u o = m o at hu1
    change ∀ c, 0 ≤ c → c < t → u 10 c = 0 ∧ u 12 c = 0 ∧ u 13 c = 0 ∧ u 14 c = 0 at hu2
    show ∃ u', qM_laysLines_2_b (qM_laysLines_2 k) y (J t) (hi y TM g w u) = _ ∧ _
    unfold qM_laysLines_2_b
    by_cases hc : t < 1600
    · simp (disch := omega) only [↓isO_M, ↓gL_H, ↓pL_H, ↓gI_M1, ↓gI_M2, ↓gI_M3, ↓gI_M4, ↓gI_M5, ↓gI_M6, ↓gI_M13, ↓gI_M22, ↓gI_M23, ↓gI_M24, ↓gI_M25, ↓gI_M27, ↓gI_M28, ↓gI_M29, ↓gI_M30, ↓gI_M31, ↓gI_M32, ↓gI_M33, ↓gI_M34, ↓gI_M35, ↓gI_M40, ↓gI_M41, ↓gI_M42, ↓gI_M43, ↓pV_M1, ↓pV_M2, ↓pV_M3, ↓pV_M4, ↓pV_M5, ↓pV_M6, ↓pV_M13, ↓pV_M22, ↓pV_M23, ↓pV_M24, ↓pV_M25, ↓pV_M27, ↓pV_M28, ↓pV_M29, ↓pV_M30, ↓pV_M31, ↓pV_M32, ↓pV_M33, ↓pV_M34, ↓pV_M35, ↓pV_M40, ↓pV_M41, ↓pV_M42, ↓pV_M43, ↓gR_M0, ↓gR_M7, ↓gR_M8, ↓gR_M9, ↓gR_M10, ↓gR_M11, ↓gR_M12, ↓gR_M14, ↓gR_M15, ↓gR_M16, ↓gR_M17, ↓gR_M18, ↓gR_M19, ↓gR_M20, ↓gR_M21, ↓gR_M36, ↓gR_M37, ↓gR_M38, ↓gR_M39, ↓rd_M1, ↓rd_M2, ↓rd_M3, ↓rd_M4, ↓rd_M5, ↓rd_M6, ↓rd_M7, ↓rd_M8, ↓rd_M9, ↓rd_M10, ↓rd_M11, ↓rd_M12, ↓rd_M13, ↓rd_M14, ↓rd_M15, ↓rd_M16, ↓rd_M17, ↓rd_M18, ↓rd_M19, ↓wr_M1, ↓wr_M2, ↓wr_M3, ↓wr_M4, ↓wr_M5, ↓wr_M6, ↓wr_M7, ↓wr_M8, ↓wr_M9, ↓wr_M10, ↓wr_M11, ↓wr_M12, ↓wr_M13, ↓wr_M14, ↓wr_M15, ↓wr_M16, ↓wr_M17, ↓wr_M18, ↓wr_M19, pL_H, pV_M1, pV_M2, pV_M3, pV_M4, pV_M5, pV_M6, pV_M13, pV_M22, pV_M23, pV_M24, pV_M25, pV_M27, pV_M28, pV_M29, pV_M30, pV_M31, pV_M32, pV_M33, pV_M34, pV_M35, pV_M40, pV_M41, pV_M42, pV_M43, rd_M1, rd_M2, rd_M3, rd_M4, rd_M5, rd_M6, rd_M7, rd_M8, rd_M9, rd_M10, rd_M11, rd_M12, rd_M13, rd_M14, rd_M15, rd_M16, rd_M17, rd_M18, rd_M19, wr_M1, wr_M2, wr_M3, wr_M4, wr_M5, wr_M6, wr_M7, wr_M8, wr_M9, wr_M10, wr_M11, wr_M12, wr_M13, wr_M14, wr_M15, wr_M16, wr_M17, wr_M18, wr_M19, J_l, J_neg, J_add, J_sub, J_mul, J_lt, J_le, J_eq, J_div2, J_rem2, J_shl1, J_orp, J_or, J_and, J_shr, J_ushr, J_max, J_min, J_abs, J_b0, ↓b0_ite, ↓b0_ite2, b0_ite, bI_r, bV_r, b01_ite, rZ_b, K_l, J_long, M_in, rs_same, rs_ne, rs_rs, ru_same, ru_ne, ne_eq, if_pos]
      refine ih (t + 1, rs (rs (rs (rs u 10 (ru (u 10) t 0)) 12 (ru (u 12) t 0)) 13 (ru (u 13) t 0)) 14 (ru (u 14) t 0)) ⟨⟨by show 0 ≤ t + 1; omega, by show t + 1 ≤ 1600; omega⟩, fun o o1 o2 o3 o4 => ?_, fun c c1 c2 => ?_⟩ (by show 1600 - (t + 1) < 1600 - t; omega)
      · show rs (rs (rs (rs u 10 (ru (u 10) t 0)) 12 (ru (u 12) t 0)) 13 (ru (u 13) t 0)) 14 (ru (u 14) t 0) o = m o
        rw [rs_ne o4, rs_ne o3, rs_ne o2, rs_ne o1, hu1 o o1 o2 o3 o4]
      · change c < t + 1 at c2
        show rs (rs (rs (rs u 10 (ru (u 10) t 0)) 12 (ru (u 12) t 0)) 13 (ru (u 13) t 0)) 14 (ru (u 14) t 0) 10 c = 0 ∧ rs (rs (rs (rs u 10 (ru (u 10) t 0)) 12 (ru (u 12) t 0)) 13 (ru (u 13) t 0)) 14 (ru (u 14) t 0) 12 c = 0 ∧ rs (rs (rs (rs u 10 (ru (u 10) t 0)) 12 (ru (u 12) t 0)) 13 (ru (u 13) t 0)) 14 (ru (u 14) t 0) 13 c = 0 ∧ rs (rs (rs (rs u 10 (ru (u 10) t 0)) 12 (ru (u 12) t 0)) 13 (ru (u 13) t 0)) 14 (ru (u 14) t 0) 14 c = 0
        simp (disch := omega) only [rs_same, rs_ne, rs_rs, ru_same, ru_ne, ne_eq]
        by_cases e : c = t
        · subst e
          simp only [ru_same, and_self]
        · simp only [ru_ne e]
          exact hu2 c c1 (by omega)
    · simp (disch := omega) only [↓isO_M, ↓gL_H, ↓pL_H, ↓gI_M1, ↓gI_M2, ↓gI_M3, ↓gI_M4, ↓gI_M5, ↓gI_M6, ↓gI_M13, ↓gI_M22, ↓gI_M23, ↓gI_M24, ↓gI_M25, ↓gI_M27, ↓gI_M28, ↓gI_M29, ↓gI_M30, ↓gI_M31, ↓gI_M32, ↓gI_M33, ↓gI_M34, ↓gI_M35, ↓gI_M40, ↓gI_M41, ↓gI_M42, ↓gI_M43, ↓pV_M1, ↓pV_M2, ↓pV_M3, ↓pV_M4, ↓pV_M5, ↓pV_M6, ↓pV_M13, ↓pV_M22, ↓pV_M23, ↓pV_M24, ↓pV_M25, ↓pV_M27, ↓pV_M28, ↓pV_M29, ↓pV_M30, ↓pV_M31, ↓pV_M32, ↓pV_M33, ↓pV_M34, ↓pV_M35, ↓pV_M40, ↓pV_M41, ↓pV_M42, ↓pV_M43, ↓gR_M0, ↓gR_M7, ↓gR_M8, ↓gR_M9, ↓gR_M10, ↓gR_M11, ↓gR_M12, ↓gR_M14, ↓gR_M15, ↓gR_M16, ↓gR_M17, ↓gR_M18, ↓gR_M19, ↓gR_M20, ↓gR_M21, ↓gR_M36, ↓gR_M37, ↓gR_M38, ↓gR_M39, ↓rd_M1, ↓rd_M2, ↓rd_M3, ↓rd_M4, ↓rd_M5, ↓rd_M6, ↓rd_M7, ↓rd_M8, ↓rd_M9, ↓rd_M10, ↓rd_M11, ↓rd_M12, ↓rd_M13, ↓rd_M14, ↓rd_M15, ↓rd_M16, ↓rd_M17, ↓rd_M18, ↓rd_M19, ↓wr_M1, ↓wr_M2, ↓wr_M3, ↓wr_M4, ↓wr_M5, ↓wr_M6, ↓wr_M7, ↓wr_M8, ↓wr_M9, ↓wr_M10, ↓wr_M11, ↓wr_M12, ↓wr_M13, ↓wr_M14, ↓wr_M15, ↓wr_M16, ↓wr_M17, ↓wr_M18, ↓wr_M19, pL_H, pV_M1, pV_M2, pV_M3, pV_M4, pV_M5, pV_M6, pV_M13, pV_M22, pV_M23, pV_M24, pV_M25, pV_M27, pV_M28, pV_M29, pV_M30, pV_M31, pV_M32, pV_M33, pV_M34, pV_M35, pV_M40, pV_M41, pV_M42, pV_M43, rd_M1, rd_M2, rd_M3, rd_M4, rd_M5, rd_M6, rd_M7, rd_M8, rd_M9, rd_M10, rd_M11, rd_M12, rd_M13, rd_M14, rd_M15, rd_M16, rd_M17, rd_M18, rd_M19, wr_M1, wr_M2, wr_M3, wr_M4, wr_M5, wr_M6, wr_M7, wr_M8, wr_M9, wr_M10, wr_M11, wr_M12, wr_M13, wr_M14, wr_M15, wr_M16, wr_M17, wr_M18, wr_M19, J_l, J_neg, J_add, J_sub, J_mul, J_lt, J_le, J_eq, J_div2, J_rem2, J_shl1, J_orp, J_or, J_and, J_shr, J_ushr, J_max, J_min, J_abs, J_b0, ↓b0_ite, ↓b0_ite2, b0_ite, bI_r, bV_r, b01_ite, rZ_b, K_l, J_long, M_in, rs_same, rs_ne, rs_rs, ru_same, ru_ne, ne_eq, if_neg]
      exact ⟨u, rfl, hu1, fun c c1 c2 => hu2 c c1 (by omega)⟩
  obtain ⟨u, e1, u1, u2⟩ := k1
  have k2 : ∃ u', qM_laysLines_45 LF y (J 0) (hi y TM g w u) = qM_laysLines_67 LF y (J 0) (hi y TM g w u') ∧ (∀ o, o ≠ 11 → u' o = u o) ∧ ∀ c, 0 ≤ c → c < 6400 → u' 11 c = 0 := by
    refine loopI (S := Int × CT) (fun k q => qM_laysLines_45 k y (J q.1) (hi y TM g w q.2)) (fun X => ∃ u', X = qM_laysLines_67 LF y (J 0) (hi y TM g w u') ∧ (∀ o, o ≠ 11 → u' o = u o) ∧ ∀ c, 0 ≤ c → c < 6400 → u' 11 c = 0) (fun q => (0 ≤ q.1 ∧ q.1 ≤ 6400) ∧ (∀ o, o ≠ 11 → q.2 o = u o) ∧ ∀ c, 0 ≤ c → c < q.1 → q.2 11 c = 0) (fun q => 6400 - q.1) (by intro q hq; omega) (fun k q hq ih => ?_) (0, u) ⟨⟨by show (0 : Int) ≤ 0; omega, by show (0 : Int) ≤ 6400; omega⟩, fun o _ => rfl, fun c c1 c2 => by change c < 0 at c2; omega⟩ (by show (6400 : Int) - 0 < 20000; omega)
    obtain ⟨t, v⟩ := q
    obtain ⟨⟨ht, ht2⟩, hu1, hu2⟩ := hq
    change 0 ≤ t at ht
    change t ≤ 6400 at ht2
    change ∀ o, o ≠ 11 → v o = u o at hu1
    change ∀ c, 0 ≤ c → c < t → v 11 c = 0 at hu2
    show ∃ u', qM_laysLines_45_b (qM_laysLines_45 k) y (J t) (hi y TM g w v) = _ ∧ _
    unfold qM_laysLines_45_b
    by_cases hc : t < 6400
    · simp (disch := omega) only [↓isO_M, ↓gL_H, ↓pL_H, ↓gI_M1, ↓gI_M2, ↓gI_M3, ↓gI_M4, ↓gI_M5, ↓gI_M6, ↓gI_M13, ↓gI_M22, ↓gI_M23, ↓gI_M24, ↓gI_M25, ↓gI_M27, ↓gI_M28, ↓gI_M29, ↓gI_M30, ↓gI_M31, ↓gI_M32, ↓gI_M33, ↓gI_M34, ↓gI_M35, ↓gI_M40, ↓gI_M41, ↓gI_M42, ↓gI_M43, ↓pV_M1, ↓pV_M2, ↓pV_M3, ↓pV_M4, ↓pV_M5, ↓pV_M6, ↓pV_M13, ↓pV_M22, ↓pV_M23, ↓pV_M24, ↓pV_M25, ↓pV_M27, ↓pV_M28, ↓pV_M29, ↓pV_M30, ↓pV_M31, ↓pV_M32, ↓pV_M33, ↓pV_M34, ↓pV_M35, ↓pV_M40, ↓pV_M41, ↓pV_M42, ↓pV_M43, ↓gR_M0, ↓gR_M7, ↓gR_M8, ↓gR_M9, ↓gR_M10, ↓gR_M11, ↓gR_M12, ↓gR_M14, ↓gR_M15, ↓gR_M16, ↓gR_M17, ↓gR_M18, ↓gR_M19, ↓gR_M20, ↓gR_M21, ↓gR_M36, ↓gR_M37, ↓gR_M38, ↓gR_M39, ↓rd_M1, ↓rd_M2, ↓rd_M3, ↓rd_M4, ↓rd_M5, ↓rd_M6, ↓rd_M7, ↓rd_M8, ↓rd_M9, ↓rd_M10, ↓rd_M11, ↓rd_M12, ↓rd_M13, ↓rd_M14, ↓rd_M15, ↓rd_M16, ↓rd_M17, ↓rd_M18, ↓rd_M19, ↓wr_M1, ↓wr_M2, ↓wr_M3, ↓wr_M4, ↓wr_M5, ↓wr_M6, ↓wr_M7, ↓wr_M8, ↓wr_M9, ↓wr_M10, ↓wr_M11, ↓wr_M12, ↓wr_M13, ↓wr_M14, ↓wr_M15, ↓wr_M16, ↓wr_M17, ↓wr_M18, ↓wr_M19, pL_H, pV_M1, pV_M2, pV_M3, pV_M4, pV_M5, pV_M6, pV_M13, pV_M22, pV_M23, pV_M24, pV_M25, pV_M27, pV_M28, pV_M29, pV_M30, pV_M31, pV_M32, pV_M33, pV_M34, pV_M35, pV_M40, pV_M41, pV_M42, pV_M43, rd_M1, rd_M2, rd_M3, rd_M4, rd_M5, rd_M6, rd_M7, rd_M8, rd_M9, rd_M10, rd_M11, rd_M12, rd_M13, rd_M14, rd_M15, rd_M16, rd_M17, rd_M18, rd_M19, wr_M1, wr_M2, wr_M3, wr_M4, wr_M5, wr_M6, wr_M7, wr_M8, wr_M9, wr_M10, wr_M11, wr_M12, wr_M13, wr_M14, wr_M15, wr_M16, wr_M17, wr_M18, wr_M19, J_l, J_neg, J_add, J_sub, J_mul, J_lt, J_le, J_eq, J_div2, J_rem2, J_shl1, J_orp, J_or, J_and, J_shr, J_ushr, J_max, J_min, J_abs, J_b0, ↓b0_ite, ↓b0_ite2, b0_ite, bI_r, bV_r, b01_ite, rZ_b, K_l, J_long, M_in, rs_same, rs_ne, rs_rs, ru_same, ru_ne, ne_eq, if_pos]
      refine ih (t + 1, rs v 11 (ru (v 11) t 0)) ⟨⟨by show 0 ≤ t + 1; omega, by show t + 1 ≤ 6400; omega⟩, fun o o1 => ?_, fun c c1 c2 => ?_⟩ (by show 6400 - (t + 1) < 6400 - t; omega)
      · show rs v 11 (ru (v 11) t 0) o = u o
        rw [rs_ne o1, hu1 o o1]
      · change c < t + 1 at c2
        show rs v 11 (ru (v 11) t 0) 11 c = 0
        rw [rs_same]
        by_cases e : c = t
        · subst e
          rw [ru_same]
        · rw [ru_ne e]
          exact hu2 c c1 (by omega)
    · simp (disch := omega) only [↓isO_M, ↓gL_H, ↓pL_H, ↓gI_M1, ↓gI_M2, ↓gI_M3, ↓gI_M4, ↓gI_M5, ↓gI_M6, ↓gI_M13, ↓gI_M22, ↓gI_M23, ↓gI_M24, ↓gI_M25, ↓gI_M27, ↓gI_M28, ↓gI_M29, ↓gI_M30, ↓gI_M31, ↓gI_M32, ↓gI_M33, ↓gI_M34, ↓gI_M35, ↓gI_M40, ↓gI_M41, ↓gI_M42, ↓gI_M43, ↓pV_M1, ↓pV_M2, ↓pV_M3, ↓pV_M4, ↓pV_M5, ↓pV_M6, ↓pV_M13, ↓pV_M22, ↓pV_M23, ↓pV_M24, ↓pV_M25, ↓pV_M27, ↓pV_M28, ↓pV_M29, ↓pV_M30, ↓pV_M31, ↓pV_M32, ↓pV_M33, ↓pV_M34, ↓pV_M35, ↓pV_M40, ↓pV_M41, ↓pV_M42, ↓pV_M43, ↓gR_M0, ↓gR_M7, ↓gR_M8, ↓gR_M9, ↓gR_M10, ↓gR_M11, ↓gR_M12, ↓gR_M14, ↓gR_M15, ↓gR_M16, ↓gR_M17, ↓gR_M18, ↓gR_M19, ↓gR_M20, ↓gR_M21, ↓gR_M36, ↓gR_M37, ↓gR_M38, ↓gR_M39, ↓rd_M1, ↓rd_M2, ↓rd_M3, ↓rd_M4, ↓rd_M5, ↓rd_M6, ↓rd_M7, ↓rd_M8, ↓rd_M9, ↓rd_M10, ↓rd_M11, ↓rd_M12, ↓rd_M13, ↓rd_M14, ↓rd_M15, ↓rd_M16, ↓rd_M17, ↓rd_M18, ↓rd_M19, ↓wr_M1, ↓wr_M2, ↓wr_M3, ↓wr_M4, ↓wr_M5, ↓wr_M6, ↓wr_M7, ↓wr_M8, ↓wr_M9, ↓wr_M10, ↓wr_M11, ↓wr_M12, ↓wr_M13, ↓wr_M14, ↓wr_M15, ↓wr_M16, ↓wr_M17, ↓wr_M18, ↓wr_M19, pL_H, pV_M1, pV_M2, pV_M3, pV_M4, pV_M5, pV_M6, pV_M13, pV_M22, pV_M23, pV_M24, pV_M25, pV_M27, pV_M28, pV_M29, pV_M30, pV_M31, pV_M32, pV_M33, pV_M34, pV_M35, pV_M40, pV_M41, pV_M42, pV_M43, rd_M1, rd_M2, rd_M3, rd_M4, rd_M5, rd_M6, rd_M7, rd_M8, rd_M9, rd_M10, rd_M11, rd_M12, rd_M13, rd_M14, rd_M15, rd_M16, rd_M17, rd_M18, rd_M19, wr_M1, wr_M2, wr_M3, wr_M4, wr_M5, wr_M6, wr_M7, wr_M8, wr_M9, wr_M10, wr_M11, wr_M12, wr_M13, wr_M14, wr_M15, wr_M16, wr_M17, wr_M18, wr_M19, J_l, J_neg, J_add, J_sub, J_mul, J_lt, J_le, J_eq, J_div2, J_rem2, J_shl1, J_orp, J_or, J_and, J_shr, J_ushr, J_max, J_min, J_abs, J_b0, ↓b0_ite, ↓b0_ite2, b0_ite, bI_r, bV_r, b01_ite, rZ_b, K_l, J_long, M_in, rs_same, rs_ne, rs_rs, ru_same, ru_ne, ne_eq, if_neg]
      exact ⟨v, rfl, hu1, fun c c1 c2 => hu2 c c1 (by omega)⟩
  obtain ⟨u', e2, v1, v2⟩ := k2
  have hL : Lyd W m u' 0 := by
    refine ⟨fun o o1 o2 o3 o4 o5 o6 o7 => ?_, fun l l1 l2 => by omega, fun c c1 c2 => ?_, fun j j1 j2 => ?_⟩
    · rw [v1 o o4, u1 o o3 o5 o6 o7]
    · rw [v1 10 (by decide), v1 12 (by decide), v1 13 (by decide), v1 14 (by decide), (u2 c c1 c2).1, (u2 c c1 c2).2.1, (u2 c c1 c2).2.2.1, (u2 c c1 c2).2.2.2]
      exact ⟨LO_z.symm, rfl, SM_z.symm, rfl⟩
    · rw [v2 j j1 j2, LVs_z]
  obtain ⟨m', e3, h3⟩ := M_lays67 (y := y) (g := g) (w := w) hn hg hW hn0 hL
  refine ⟨m', ?_, h3⟩
  rw [← e3, ← e2, ← e1]
  rfl
end LS
