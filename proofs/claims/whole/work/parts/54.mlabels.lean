/-! the model lays labels, refits them, labels all -/
section MB
variable {y : Nat} {g : XH} {w : Int64} {m m0 : CT} {W W' row lo lg sn : Int → Int} {wd hg c c' i j l n p v t k : Int} {h : XH}
theorem M_labelOf (hc : 0 ≤ c ∧ c < 1600) : qM_labelOf y (J c) (hi y TM g w m) = rI (J (lbl (m 3) c)) (hi y TM g w m) := by
  unfold qM_labelOf lbl
  simp (disch := omega) only [↓isO_M, ↓gL_H, ↓pL_H, ↓gI_M1, ↓gI_M2, ↓gI_M3, ↓gI_M4, ↓gI_M5, ↓gI_M6, ↓gI_M13, ↓gI_M22, ↓gI_M23, ↓gI_M24, ↓gI_M25, ↓gI_M27, ↓gI_M28, ↓gI_M29, ↓gI_M30, ↓gI_M31, ↓gI_M32, ↓gI_M33, ↓gI_M34, ↓gI_M35, ↓gI_M40, ↓gI_M41, ↓gI_M42, ↓gI_M43, ↓pV_M1, ↓pV_M2, ↓pV_M3, ↓pV_M4, ↓pV_M5, ↓pV_M6, ↓pV_M13, ↓pV_M22, ↓pV_M23, ↓pV_M24, ↓pV_M25, ↓pV_M27, ↓pV_M28, ↓pV_M29, ↓pV_M30, ↓pV_M31, ↓pV_M32, ↓pV_M33, ↓pV_M34, ↓pV_M35, ↓pV_M40, ↓pV_M41, ↓pV_M42, ↓pV_M43, ↓gR_M0, ↓gR_M7, ↓gR_M8, ↓gR_M9, ↓gR_M10, ↓gR_M11, ↓gR_M12, ↓gR_M14, ↓gR_M15, ↓gR_M16, ↓gR_M17, ↓gR_M18, ↓gR_M19, ↓gR_M20, ↓gR_M21, ↓gR_M36, ↓gR_M37, ↓gR_M38, ↓gR_M39, ↓rd_M1, ↓rd_M2, ↓rd_M3, ↓rd_M4, ↓rd_M5, ↓rd_M6, ↓rd_M7, ↓rd_M8, ↓rd_M9, ↓rd_M10, ↓rd_M11, ↓rd_M12, ↓rd_M13, ↓rd_M14, ↓rd_M15, ↓rd_M16, ↓rd_M17, ↓rd_M18, ↓rd_M19, ↓wr_M1, ↓wr_M2, ↓wr_M3, ↓wr_M4, ↓wr_M5, ↓wr_M6, ↓wr_M7, ↓wr_M8, ↓wr_M9, ↓wr_M10, ↓wr_M11, ↓wr_M12, ↓wr_M13, ↓wr_M14, ↓wr_M15, ↓wr_M16, ↓wr_M17, ↓wr_M18, ↓wr_M19, pL_H, pV_M1, pV_M2, pV_M3, pV_M4, pV_M5, pV_M6, pV_M13, pV_M22, pV_M23, pV_M24, pV_M25, pV_M27, pV_M28, pV_M29, pV_M30, pV_M31, pV_M32, pV_M33, pV_M34, pV_M35, pV_M40, pV_M41, pV_M42, pV_M43, rd_M1, rd_M2, rd_M3, rd_M4, rd_M5, rd_M6, rd_M7, rd_M8, rd_M9, rd_M10, rd_M11, rd_M12, rd_M13, rd_M14, rd_M15, rd_M16, rd_M17, rd_M18, rd_M19, wr_M1, wr_M2, wr_M3, wr_M4, wr_M5, wr_M6, wr_M7, wr_M8, wr_M9, wr_M10, wr_M11, wr_M12, wr_M13, wr_M14, wr_M15, wr_M16, wr_M17, wr_M18, wr_M19, J_l, J_neg, J_add, J_sub, J_mul, J_lt, J_le, J_eq, J_div2, J_rem2, J_shl1, J_orp, J_or, J_and, J_shr, J_ushr, J_max, J_min, J_abs, J_b0, ↓b0_ite, ↓b0_ite2, b0_ite, bI_r, bV_r, b01_ite, ite_true, ite_false, rZ_b, K_l, J_long, M_in]
theorem M_isPlace (hc : 0 ≤ c ∧ c < 1600) (hb : 0 ≤ m 12 c ∧ m 12 c ≤ 160) : qM_isPlace y (J c) (hi y TM g w m) = rI (J (b01 (0 < m 12 c))) (hi y TM g w m) := by
  unfold qM_isPlace
  simp (disch := omega) only [↓isO_M, ↓gL_H, ↓pL_H, ↓gI_M1, ↓gI_M2, ↓gI_M3, ↓gI_M4, ↓gI_M5, ↓gI_M6, ↓gI_M13, ↓gI_M22, ↓gI_M23, ↓gI_M24, ↓gI_M25, ↓gI_M27, ↓gI_M28, ↓gI_M29, ↓gI_M30, ↓gI_M31, ↓gI_M32, ↓gI_M33, ↓gI_M34, ↓gI_M35, ↓gI_M40, ↓gI_M41, ↓gI_M42, ↓gI_M43, ↓pV_M1, ↓pV_M2, ↓pV_M3, ↓pV_M4, ↓pV_M5, ↓pV_M6, ↓pV_M13, ↓pV_M22, ↓pV_M23, ↓pV_M24, ↓pV_M25, ↓pV_M27, ↓pV_M28, ↓pV_M29, ↓pV_M30, ↓pV_M31, ↓pV_M32, ↓pV_M33, ↓pV_M34, ↓pV_M35, ↓pV_M40, ↓pV_M41, ↓pV_M42, ↓pV_M43, ↓gR_M0, ↓gR_M7, ↓gR_M8, ↓gR_M9, ↓gR_M10, ↓gR_M11, ↓gR_M12, ↓gR_M14, ↓gR_M15, ↓gR_M16, ↓gR_M17, ↓gR_M18, ↓gR_M19, ↓gR_M20, ↓gR_M21, ↓gR_M36, ↓gR_M37, ↓gR_M38, ↓gR_M39, ↓rd_M1, ↓rd_M2, ↓rd_M3, ↓rd_M4, ↓rd_M5, ↓rd_M6, ↓rd_M7, ↓rd_M8, ↓rd_M9, ↓rd_M10, ↓rd_M11, ↓rd_M12, ↓rd_M13, ↓rd_M14, ↓rd_M15, ↓rd_M16, ↓rd_M17, ↓rd_M18, ↓rd_M19, ↓wr_M1, ↓wr_M2, ↓wr_M3, ↓wr_M4, ↓wr_M5, ↓wr_M6, ↓wr_M7, ↓wr_M8, ↓wr_M9, ↓wr_M10, ↓wr_M11, ↓wr_M12, ↓wr_M13, ↓wr_M14, ↓wr_M15, ↓wr_M16, ↓wr_M17, ↓wr_M18, ↓wr_M19, pL_H, pV_M1, pV_M2, pV_M3, pV_M4, pV_M5, pV_M6, pV_M13, pV_M22, pV_M23, pV_M24, pV_M25, pV_M27, pV_M28, pV_M29, pV_M30, pV_M31, pV_M32, pV_M33, pV_M34, pV_M35, pV_M40, pV_M41, pV_M42, pV_M43, rd_M1, rd_M2, rd_M3, rd_M4, rd_M5, rd_M6, rd_M7, rd_M8, rd_M9, rd_M10, rd_M11, rd_M12, rd_M13, rd_M14, rd_M15, rd_M16, rd_M17, rd_M18, rd_M19, wr_M1, wr_M2, wr_M3, wr_M4, wr_M5, wr_M6, wr_M7, wr_M8, wr_M9, wr_M10, wr_M11, wr_M12, wr_M13, wr_M14, wr_M15, wr_M16, wr_M17, wr_M18, wr_M19, J_l, J_neg, J_add, J_sub, J_mul, J_lt, J_le, J_eq, J_div2, J_rem2, J_shl1, J_orp, J_or, J_and, J_shr, J_ushr, J_max, J_min, J_abs, J_b0, ↓b0_ite, ↓b0_ite2, b0_ite, bI_r, bV_r, b01_ite, ite_true, ite_false, rZ_b, K_l, J_long, M_in]
theorem M_clears : ∃ m', qM_clearsLabels y (hi y TM g w m) = rV (hi y TM g w m') ∧ (∀ o, o ≠ 15 → m' o = m o) ∧ ∀ c, 0 ≤ c → c < 1600 → m' 15 c = -2 := by
  refine loopI (S := Int × CT) (fun N q => qM_clearsLabels_2 N y (J q.1) (hi y TM g w q.2)) (fun X => ∃ m', X = rV (hi y TM g w m') ∧ (∀ o, o ≠ 15 → m' o = m o) ∧ ∀ c, 0 ≤ c → c < 1600 → m' 15 c = -2) (fun q => (0 ≤ q.1 ∧ q.1 ≤ 1600) ∧ (∀ o, o ≠ 15 → q.2 o = m o) ∧ ∀ c, 0 ≤ c → c < q.1 → q.2 15 c = -2) (fun q => 1600 - q.1) (by intro q hq; omega) (fun N q hq ih => ?_) (0, m) ⟨⟨by show (0 : Int) ≤ 0; omega, by show (0 : Int) ≤ 1600; omega⟩, fun o _ => rfl, fun c c1 c2 => by change c < 0 at c2; omega⟩ (by show (1600 : Int) - 0 < 20000; omega)
  obtain ⟨t, u⟩ := q
  obtain ⟨⟨ht, ht2⟩, hu1, hu2⟩ := hq
  change 0 ≤ t at ht
  change t ≤ 1600 at ht2
  change ∀ o, o ≠ 15 → u o = m o at hu1
  change ∀ c, 0 ≤ c → c < t → u 15 c = -2 at hu2
  show ∃ u', qM_clearsLabels_2_b (qM_clearsLabels_2 N) y (J t) (hi y TM g w u) = _ ∧ _
  unfold qM_clearsLabels_2_b
  by_cases hc : t < 1600
  · simp (disch := omega) only [↓isO_M, ↓gL_H, ↓pL_H, ↓gI_M1, ↓gI_M2, ↓gI_M3, ↓gI_M4, ↓gI_M5, ↓gI_M6, ↓gI_M13, ↓gI_M22, ↓gI_M23, ↓gI_M24, ↓gI_M25, ↓gI_M27, ↓gI_M28, ↓gI_M29, ↓gI_M30, ↓gI_M31, ↓gI_M32, ↓gI_M33, ↓gI_M34, ↓gI_M35, ↓gI_M40, ↓gI_M41, ↓gI_M42, ↓gI_M43, ↓pV_M1, ↓pV_M2, ↓pV_M3, ↓pV_M4, ↓pV_M5, ↓pV_M6, ↓pV_M13, ↓pV_M22, ↓pV_M23, ↓pV_M24, ↓pV_M25, ↓pV_M27, ↓pV_M28, ↓pV_M29, ↓pV_M30, ↓pV_M31, ↓pV_M32, ↓pV_M33, ↓pV_M34, ↓pV_M35, ↓pV_M40, ↓pV_M41, ↓pV_M42, ↓pV_M43, ↓gR_M0, ↓gR_M7, ↓gR_M8, ↓gR_M9, ↓gR_M10, ↓gR_M11, ↓gR_M12, ↓gR_M14, ↓gR_M15, ↓gR_M16, ↓gR_M17, ↓gR_M18, ↓gR_M19, ↓gR_M20, ↓gR_M21, ↓gR_M36, ↓gR_M37, ↓gR_M38, ↓gR_M39, ↓rd_M1, ↓rd_M2, ↓rd_M3, ↓rd_M4, ↓rd_M5, ↓rd_M6, ↓rd_M7, ↓rd_M8, ↓rd_M9, ↓rd_M10, ↓rd_M11, ↓rd_M12, ↓rd_M13, ↓rd_M14, ↓rd_M15, ↓rd_M16, ↓rd_M17, ↓rd_M18, ↓rd_M19, ↓wr_M1, ↓wr_M2, ↓wr_M3, ↓wr_M4, ↓wr_M5, ↓wr_M6, ↓wr_M7, ↓wr_M8, ↓wr_M9, ↓wr_M10, ↓wr_M11, ↓wr_M12, ↓wr_M13, ↓wr_M14, ↓wr_M15, ↓wr_M16, ↓wr_M17, ↓wr_M18, ↓wr_M19, pL_H, pV_M1, pV_M2, pV_M3, pV_M4, pV_M5, pV_M6, pV_M13, pV_M22, pV_M23, pV_M24, pV_M25, pV_M27, pV_M28, pV_M29, pV_M30, pV_M31, pV_M32, pV_M33, pV_M34, pV_M35, pV_M40, pV_M41, pV_M42, pV_M43, rd_M1, rd_M2, rd_M3, rd_M4, rd_M5, rd_M6, rd_M7, rd_M8, rd_M9, rd_M10, rd_M11, rd_M12, rd_M13, rd_M14, rd_M15, rd_M16, rd_M17, rd_M18, rd_M19, wr_M1, wr_M2, wr_M3, wr_M4, wr_M5, wr_M6, wr_M7, wr_M8, wr_M9, wr_M10, wr_M11, wr_M12, wr_M13, wr_M14, wr_M15, wr_M16, wr_M17, wr_M18, wr_M19, J_l, J_neg, J_add, J_sub, J_mul, J_lt, J_le, J_eq, J_div2, J_rem2, J_shl1, J_orp, J_or, J_and, J_shr, J_ushr, J_max, J_min, J_abs, J_b0, ↓b0_ite, ↓b0_ite2, b0_ite, bI_r, bV_r, b01_ite, ite_true, ite_false, rZ_b, K_l, J_long, M_in, rs_same, rs_ne, rs_rs, ru_same, ru_ne, ne_eq, if_pos]
    refine ih (t + 1, rs u 15 (ru (u 15) t (-2))) ⟨⟨by show 0 ≤ t + 1; omega, by show t + 1 ≤ 1600; omega⟩, fun o o1 => ?_, fun c c1 c2 => ?_⟩ (by show 1600 - (t + 1) < 1600 - t; omega)
    · show rs u 15 (ru (u 15) t (-2)) o = m o
      rw [rs_ne o1, hu1 o o1]
    · change c < t + 1 at c2
      show rs u 15 (ru (u 15) t (-2)) 15 c = -2
      rw [rs_same]
      by_cases e : c = t
      · subst e
        rw [ru_same]
      · rw [ru_ne e]
        exact hu2 c c1 (by omega)
  · simp (disch := omega) only [↓isO_M, ↓gL_H, ↓pL_H, ↓gI_M1, ↓gI_M2, ↓gI_M3, ↓gI_M4, ↓gI_M5, ↓gI_M6, ↓gI_M13, ↓gI_M22, ↓gI_M23, ↓gI_M24, ↓gI_M25, ↓gI_M27, ↓gI_M28, ↓gI_M29, ↓gI_M30, ↓gI_M31, ↓gI_M32, ↓gI_M33, ↓gI_M34, ↓gI_M35, ↓gI_M40, ↓gI_M41, ↓gI_M42, ↓gI_M43, ↓pV_M1, ↓pV_M2, ↓pV_M3, ↓pV_M4, ↓pV_M5, ↓pV_M6, ↓pV_M13, ↓pV_M22, ↓pV_M23, ↓pV_M24, ↓pV_M25, ↓pV_M27, ↓pV_M28, ↓pV_M29, ↓pV_M30, ↓pV_M31, ↓pV_M32, ↓pV_M33, ↓pV_M34, ↓pV_M35, ↓pV_M40, ↓pV_M41, ↓pV_M42, ↓pV_M43, ↓gR_M0, ↓gR_M7, ↓gR_M8, ↓gR_M9, ↓gR_M10, ↓gR_M11, ↓gR_M12, ↓gR_M14, ↓gR_M15, ↓gR_M16, ↓gR_M17, ↓gR_M18, ↓gR_M19, ↓gR_M20, ↓gR_M21, ↓gR_M36, ↓gR_M37, ↓gR_M38, ↓gR_M39, ↓rd_M1, ↓rd_M2, ↓rd_M3, ↓rd_M4, ↓rd_M5, ↓rd_M6, ↓rd_M7, ↓rd_M8, ↓rd_M9, ↓rd_M10, ↓rd_M11, ↓rd_M12, ↓rd_M13, ↓rd_M14, ↓rd_M15, ↓rd_M16, ↓rd_M17, ↓rd_M18, ↓rd_M19, ↓wr_M1, ↓wr_M2, ↓wr_M3, ↓wr_M4, ↓wr_M5, ↓wr_M6, ↓wr_M7, ↓wr_M8, ↓wr_M9, ↓wr_M10, ↓wr_M11, ↓wr_M12, ↓wr_M13, ↓wr_M14, ↓wr_M15, ↓wr_M16, ↓wr_M17, ↓wr_M18, ↓wr_M19, pL_H, pV_M1, pV_M2, pV_M3, pV_M4, pV_M5, pV_M6, pV_M13, pV_M22, pV_M23, pV_M24, pV_M25, pV_M27, pV_M28, pV_M29, pV_M30, pV_M31, pV_M32, pV_M33, pV_M34, pV_M35, pV_M40, pV_M41, pV_M42, pV_M43, rd_M1, rd_M2, rd_M3, rd_M4, rd_M5, rd_M6, rd_M7, rd_M8, rd_M9, rd_M10, rd_M11, rd_M12, rd_M13, rd_M14, rd_M15, rd_M16, rd_M17, rd_M18, rd_M19, wr_M1, wr_M2, wr_M3, wr_M4, wr_M5, wr_M6, wr_M7, wr_M8, wr_M9, wr_M10, wr_M11, wr_M12, wr_M13, wr_M14, wr_M15, wr_M16, wr_M17, wr_M18, wr_M19, J_l, J_neg, J_add, J_sub, J_mul, J_lt, J_le, J_eq, J_div2, J_rem2, J_shl1, J_orp, J_or, J_and, J_shr, J_ushr, J_max, J_min, J_abs, J_b0, ↓b0_ite, ↓b0_ite2, b0_ite, bI_r, bV_r, b01_ite, ite_true, ite_false, rZ_b, K_l, J_long, M_in, rs_same, rs_ne, rs_rs, ru_same, ru_ne, ne_eq, if_neg]
    exact ⟨u, rfl, hu1, fun c c1 c2 => hu2 c c1 (by omega)⟩
/-- a world whose lines run and whose labels fit -/
def GoodW (wd hg n : Int) (W : Int → Int) : Prop := (∀ l, 0 ≤ l → l < n → LG W l) ∧ GN (LO W n) (LN W n) (SN W n) wd hg W 1600 ∧ ∃ row, Own (LN W n) W row 1600
def Hdr (wd hg mt n : Int) : Prop := (4 ≤ wd ∧ wd ≤ 40) ∧ (4 ≤ hg ∧ hg ≤ 40) ∧ (0 ≤ mt ∧ mt ≤ 3) ∧ 0 ≤ n ∧ n ≤ 8
/-- what is laid -/
def Laid (W : Int → Int) (n : Int) (m0 m : CT) : Prop :=
  (∀ o, o ≠ 8 → o ≠ 9 → o ≠ 10 → o ≠ 11 → o ≠ 12 → o ≠ 13 → o ≠ 14 → o ≠ 15 → m o = m0 o) ∧ (∀ l, 0 ≤ l → l < n → m 8 l = len W l ∧ ∀ i, 0 ≤ i → i ≤ len W l → m 9 (400 * l + i) = Ps W l i) ∧ (∀ c, 0 ≤ c → c < 1600 → m 10 c = LO W n c ∧ m 12 c = SN W n c ∧ m 13 c = SM W n c ∧ m 14 c = LN W n c) ∧ (∀ j, 0 ≤ j → j < 6400 → m 11 j = LVs W n j) ∧ Own (LN W n) W (m 15) 1600
theorem lblOk_G (h : GN lo lg sn wd hg W 1600) : lblOk W := fun c c1 c2 => by
  rcases h c c1 c2 with e | ⟨e1, e2, _⟩
  · exact Or.inl e
  · exact Or.inr ⟨e1, e2⟩
theorem M_lays (hH : Hdr (m 0 3) (m 0 4) (m 0 5) n) (hn : m 0 6 = n) (hW : m 3 = W) (hG : GoodW (m 0 3) (m 0 4) n W) : ∃ m', qM_lays y (hi y TM g w m) = rV (hi y TM g w m') ∧ Laid W n m m' := by
  obtain ⟨hw, hh, hmt, hn8⟩ := hH
  obtain ⟨hL, hGN, row, hO⟩ := hG
  obtain ⟨m1, e1, l1⟩ := M_laysLines (y := y) (g := g) (w := w) hn8 hL hW hn
  obtain ⟨m2, e2, c1, c2⟩ := M_clears (y := y) (g := g) (w := w) (m := m1)
  have inv := fun k h1 h2 => rf_inv (lo := LO W n) (lg := LN W n) (sn := SN W n) (wd := m 0 3) (hg := m 0 4) (r0 := m2 15) c2 (lblOk_G hGN) k h1 h2
  have good := fun k h1 h2 => rf_good (r0 := m2 15) hw hh c2 hGN hO k h1 h2
  have key := loopI (S := Int × CT) (fun N q => qM_lays_10 N y (J q.1) (hi y TM g w q.2)) (fun X => ∃ m', X = rV (hi y TM g w m') ∧ (∀ o, o ≠ 15 → m' o = m1 o) ∧ m' 15 = (rf (LO W n) (LN W n) (SN W n) (m 0 3) (m 0 4) W (m2 15) 1600).2) (fun q => (0 ≤ q.1 ∧ q.1 ≤ 1600) ∧ (∀ o, o ≠ 15 → q.2 o = m1 o) ∧ q.2 15 = (rf (LO W n) (LN W n) (SN W n) (m 0 3) (m 0 4) W (m2 15) q.1).2) (fun q => 1600 - q.1) (by intro q hq; omega) (fun N q hq ih => by
    obtain ⟨t, u⟩ := q
    obtain ⟨⟨ht, ht2⟩, hu1, hu2⟩ := hq
    change 0 ≤ t at ht
    change t ≤ 1600 at ht2
    change ∀ o, o ≠ 15 → u o = m1 o at hu1
    change u 15 = (rf (LO W n) (LN W n) (SN W n) (m 0 3) (m 0 4) W (m2 15) t).2 at hu2
    have f3 : u 3 = W := by rw [hu1 3 (by decide), l1.1 3 (by decide) (by decide) (by decide) (by decide) (by decide) (by decide) (by decide), hW]
    show ∃ u', qM_lays_10_b (qM_lays_10 N) y (J t) (hi y TM g w u) = _ ∧ _
    unfold qM_lays_10_b
    by_cases hc : t < 1600
    · have b1 := (lblOk_G hGN) t ht hc
      have f14 : u 14 t = LN W n t := by rw [hu1 14 (by decide)]; exact (l1.2.2.1 t ht hc).2.2.2
      have b2 := LN_bd (W := W) (c := t) hn8.1 (fun l a b => (hL l a b).1)
      simp (disch := omega) only [↓isO_M, ↓gL_H, ↓pL_H, ↓gI_M1, ↓gI_M2, ↓gI_M3, ↓gI_M4, ↓gI_M5, ↓gI_M6, ↓gI_M13, ↓gI_M22, ↓gI_M23, ↓gI_M24, ↓gI_M25, ↓gI_M27, ↓gI_M28, ↓gI_M29, ↓gI_M30, ↓gI_M31, ↓gI_M32, ↓gI_M33, ↓gI_M34, ↓gI_M35, ↓gI_M40, ↓gI_M41, ↓gI_M42, ↓gI_M43, ↓pV_M1, ↓pV_M2, ↓pV_M3, ↓pV_M4, ↓pV_M5, ↓pV_M6, ↓pV_M13, ↓pV_M22, ↓pV_M23, ↓pV_M24, ↓pV_M25, ↓pV_M27, ↓pV_M28, ↓pV_M29, ↓pV_M30, ↓pV_M31, ↓pV_M32, ↓pV_M33, ↓pV_M34, ↓pV_M35, ↓pV_M40, ↓pV_M41, ↓pV_M42, ↓pV_M43, ↓gR_M0, ↓gR_M7, ↓gR_M8, ↓gR_M9, ↓gR_M10, ↓gR_M11, ↓gR_M12, ↓gR_M14, ↓gR_M15, ↓gR_M16, ↓gR_M17, ↓gR_M18, ↓gR_M19, ↓gR_M20, ↓gR_M21, ↓gR_M36, ↓gR_M37, ↓gR_M38, ↓gR_M39, ↓rd_M1, ↓rd_M2, ↓rd_M3, ↓rd_M4, ↓rd_M5, ↓rd_M6, ↓rd_M7, ↓rd_M8, ↓rd_M9, ↓rd_M10, ↓rd_M11, ↓rd_M12, ↓rd_M13, ↓rd_M14, ↓rd_M15, ↓rd_M16, ↓rd_M17, ↓rd_M18, ↓rd_M19, ↓wr_M1, ↓wr_M2, ↓wr_M3, ↓wr_M4, ↓wr_M5, ↓wr_M6, ↓wr_M7, ↓wr_M8, ↓wr_M9, ↓wr_M10, ↓wr_M11, ↓wr_M12, ↓wr_M13, ↓wr_M14, ↓wr_M15, ↓wr_M16, ↓wr_M17, ↓wr_M18, ↓wr_M19, pL_H, pV_M1, pV_M2, pV_M3, pV_M4, pV_M5, pV_M6, pV_M13, pV_M22, pV_M23, pV_M24, pV_M25, pV_M27, pV_M28, pV_M29, pV_M30, pV_M31, pV_M32, pV_M33, pV_M34, pV_M35, pV_M40, pV_M41, pV_M42, pV_M43, rd_M1, rd_M2, rd_M3, rd_M4, rd_M5, rd_M6, rd_M7, rd_M8, rd_M9, rd_M10, rd_M11, rd_M12, rd_M13, rd_M14, rd_M15, rd_M16, rd_M17, rd_M18, rd_M19, wr_M1, wr_M2, wr_M3, wr_M4, wr_M5, wr_M6, wr_M7, wr_M8, wr_M9, wr_M10, wr_M11, wr_M12, wr_M13, wr_M14, wr_M15, wr_M16, wr_M17, wr_M18, wr_M19, J_l, J_neg, J_add, J_sub, J_mul, J_lt, J_le, J_eq, J_div2, J_rem2, J_shl1, J_orp, J_or, J_and, J_shr, J_ushr, J_max, J_min, J_abs, J_b0, ↓b0_ite, ↓b0_ite2, b0_ite, bI_r, bV_r, b01_ite, ite_true, ite_false, rZ_b, K_l, J_long, M_in, if_pos, M_labelOf, f3]
      by_cases hneg : lbl W t < 0
      · rw [if_pos hneg]
        refine ih (t + 1, u) ⟨⟨by show 0 ≤ t + 1; omega, by show t + 1 ≤ 1600; omega⟩, hu1, ?_⟩ (by show 1600 - (t + 1) < 1600 - t; omega)
        show u 15 = (rf (LO W n) (LN W n) (SN W n) (m 0 3) (m 0 4) W (m2 15) (t + 1)).2
        rw [rf_s ht, if_pos hneg, hu2]
      · rw [if_neg hneg]
        rcases hGN t ht hc with e | ⟨g1, g2, g3, g4, g5⟩
        · omega
        · have x1 := M_laysLabel (y := y) (g := g) (w := w) (m := u) (v := t) ⟨ht, hc⟩ ⟨g1, g2⟩ (by omega) hw hh (by rw [f14]; exact g4)
          rw [f14] at x1
          simp (disch := omega) only [↓isO_M, ↓gL_H, ↓pL_H, ↓gI_M1, ↓gI_M2, ↓gI_M3, ↓gI_M4, ↓gI_M5, ↓gI_M6, ↓gI_M13, ↓gI_M22, ↓gI_M23, ↓gI_M24, ↓gI_M25, ↓gI_M27, ↓gI_M28, ↓gI_M29, ↓gI_M30, ↓gI_M31, ↓gI_M32, ↓gI_M33, ↓gI_M34, ↓gI_M35, ↓gI_M40, ↓gI_M41, ↓gI_M42, ↓gI_M43, ↓pV_M1, ↓pV_M2, ↓pV_M3, ↓pV_M4, ↓pV_M5, ↓pV_M6, ↓pV_M13, ↓pV_M22, ↓pV_M23, ↓pV_M24, ↓pV_M25, ↓pV_M27, ↓pV_M28, ↓pV_M29, ↓pV_M30, ↓pV_M31, ↓pV_M32, ↓pV_M33, ↓pV_M34, ↓pV_M35, ↓pV_M40, ↓pV_M41, ↓pV_M42, ↓pV_M43, ↓gR_M0, ↓gR_M7, ↓gR_M8, ↓gR_M9, ↓gR_M10, ↓gR_M11, ↓gR_M12, ↓gR_M14, ↓gR_M15, ↓gR_M16, ↓gR_M17, ↓gR_M18, ↓gR_M19, ↓gR_M20, ↓gR_M21, ↓gR_M36, ↓gR_M37, ↓gR_M38, ↓gR_M39, ↓rd_M1, ↓rd_M2, ↓rd_M3, ↓rd_M4, ↓rd_M5, ↓rd_M6, ↓rd_M7, ↓rd_M8, ↓rd_M9, ↓rd_M10, ↓rd_M11, ↓rd_M12, ↓rd_M13, ↓rd_M14, ↓rd_M15, ↓rd_M16, ↓rd_M17, ↓rd_M18, ↓rd_M19, ↓wr_M1, ↓wr_M2, ↓wr_M3, ↓wr_M4, ↓wr_M5, ↓wr_M6, ↓wr_M7, ↓wr_M8, ↓wr_M9, ↓wr_M10, ↓wr_M11, ↓wr_M12, ↓wr_M13, ↓wr_M14, ↓wr_M15, ↓wr_M16, ↓wr_M17, ↓wr_M18, ↓wr_M19, pL_H, pV_M1, pV_M2, pV_M3, pV_M4, pV_M5, pV_M6, pV_M13, pV_M22, pV_M23, pV_M24, pV_M25, pV_M27, pV_M28, pV_M29, pV_M30, pV_M31, pV_M32, pV_M33, pV_M34, pV_M35, pV_M40, pV_M41, pV_M42, pV_M43, rd_M1, rd_M2, rd_M3, rd_M4, rd_M5, rd_M6, rd_M7, rd_M8, rd_M9, rd_M10, rd_M11, rd_M12, rd_M13, rd_M14, rd_M15, rd_M16, rd_M17, rd_M18, rd_M19, wr_M1, wr_M2, wr_M3, wr_M4, wr_M5, wr_M6, wr_M7, wr_M8, wr_M9, wr_M10, wr_M11, wr_M12, wr_M13, wr_M14, wr_M15, wr_M16, wr_M17, wr_M18, wr_M19, J_l, J_neg, J_add, J_sub, J_mul, J_lt, J_le, J_eq, J_div2, J_rem2, J_shl1, J_orp, J_or, J_and, J_shr, J_ushr, J_max, J_min, J_abs, J_b0, ↓b0_ite, ↓b0_ite2, b0_ite, bI_r, bV_r, b01_ite, ite_true, ite_false, rZ_b, K_l, J_long, M_in, x1, M_labelOf, f3]
          refine ih (t + 1, rs u 15 (pnt (u 15) (fr t (lbl W t) (LN W n t)) (LN W n t) t)) ⟨⟨by show 0 ≤ t + 1; omega, by show t + 1 ≤ 1600; omega⟩, fun o ho => ?_, ?_⟩ (by show 1600 - (t + 1) < 1600 - t; omega)
          · show rs u 15 (pnt (u 15) (fr t (lbl W t) (LN W n t)) (LN W n t) t) o = m1 o
            rw [rs_ne ho, hu1 o ho]
          · show rs u 15 (pnt (u 15) (fr t (lbl W t) (LN W n t)) (LN W n t) t) 15 = (rf (LO W n) (LN W n) (SN W n) (m 0 3) (m 0 4) W (m2 15) (t + 1)).2
            have gd := good (t + 1) (by omega) (by omega)
            have gd0 := good t (by omega) (by omega)
            rw [rf_s ht, if_neg hneg] at gd ⊢
            by_cases hfit : 0 < SN W n t ∧ whyP (LO W n) (LN W n) (rf (LO W n) (LN W n) (SN W n) (m 0 3) (m 0 4) W (m2 15) t).2 (m 0 3) (m 0 4) t (lbl W t) = 0
            · rw [if_pos hfit, rs_same, hu2]
            · rw [if_neg hfit] at gd
              have : lbl (ru (rf (LO W n) (LN W n) (SN W n) (m 0 3) (m 0 4) W (m2 15) t).1 (184 + t) (-2)) t = lbl W t := by rw [show ru (rf (LO W n) (LN W n) (SN W n) (m 0 3) (m 0 4) W (m2 15) t).1 (184 + t) (-2) = W from gd]
              rw [lbl_ru ht ht, if_pos rfl] at this
              omega
    · simp (disch := omega) only [↓isO_M, ↓gL_H, ↓pL_H, ↓gI_M1, ↓gI_M2, ↓gI_M3, ↓gI_M4, ↓gI_M5, ↓gI_M6, ↓gI_M13, ↓gI_M22, ↓gI_M23, ↓gI_M24, ↓gI_M25, ↓gI_M27, ↓gI_M28, ↓gI_M29, ↓gI_M30, ↓gI_M31, ↓gI_M32, ↓gI_M33, ↓gI_M34, ↓gI_M35, ↓gI_M40, ↓gI_M41, ↓gI_M42, ↓gI_M43, ↓pV_M1, ↓pV_M2, ↓pV_M3, ↓pV_M4, ↓pV_M5, ↓pV_M6, ↓pV_M13, ↓pV_M22, ↓pV_M23, ↓pV_M24, ↓pV_M25, ↓pV_M27, ↓pV_M28, ↓pV_M29, ↓pV_M30, ↓pV_M31, ↓pV_M32, ↓pV_M33, ↓pV_M34, ↓pV_M35, ↓pV_M40, ↓pV_M41, ↓pV_M42, ↓pV_M43, ↓gR_M0, ↓gR_M7, ↓gR_M8, ↓gR_M9, ↓gR_M10, ↓gR_M11, ↓gR_M12, ↓gR_M14, ↓gR_M15, ↓gR_M16, ↓gR_M17, ↓gR_M18, ↓gR_M19, ↓gR_M20, ↓gR_M21, ↓gR_M36, ↓gR_M37, ↓gR_M38, ↓gR_M39, ↓rd_M1, ↓rd_M2, ↓rd_M3, ↓rd_M4, ↓rd_M5, ↓rd_M6, ↓rd_M7, ↓rd_M8, ↓rd_M9, ↓rd_M10, ↓rd_M11, ↓rd_M12, ↓rd_M13, ↓rd_M14, ↓rd_M15, ↓rd_M16, ↓rd_M17, ↓rd_M18, ↓rd_M19, ↓wr_M1, ↓wr_M2, ↓wr_M3, ↓wr_M4, ↓wr_M5, ↓wr_M6, ↓wr_M7, ↓wr_M8, ↓wr_M9, ↓wr_M10, ↓wr_M11, ↓wr_M12, ↓wr_M13, ↓wr_M14, ↓wr_M15, ↓wr_M16, ↓wr_M17, ↓wr_M18, ↓wr_M19, pL_H, pV_M1, pV_M2, pV_M3, pV_M4, pV_M5, pV_M6, pV_M13, pV_M22, pV_M23, pV_M24, pV_M25, pV_M27, pV_M28, pV_M29, pV_M30, pV_M31, pV_M32, pV_M33, pV_M34, pV_M35, pV_M40, pV_M41, pV_M42, pV_M43, rd_M1, rd_M2, rd_M3, rd_M4, rd_M5, rd_M6, rd_M7, rd_M8, rd_M9, rd_M10, rd_M11, rd_M12, rd_M13, rd_M14, rd_M15, rd_M16, rd_M17, rd_M18, rd_M19, wr_M1, wr_M2, wr_M3, wr_M4, wr_M5, wr_M6, wr_M7, wr_M8, wr_M9, wr_M10, wr_M11, wr_M12, wr_M13, wr_M14, wr_M15, wr_M16, wr_M17, wr_M18, wr_M19, J_l, J_neg, J_add, J_sub, J_mul, J_lt, J_le, J_eq, J_div2, J_rem2, J_shl1, J_orp, J_or, J_and, J_shr, J_ushr, J_max, J_min, J_abs, J_b0, ↓b0_ite, ↓b0_ite2, b0_ite, bI_r, bV_r, b01_ite, ite_true, ite_false, rZ_b, K_l, J_long, M_in, if_neg]
      refine ⟨u, rfl, hu1, ?_⟩
      rw [hu2, show t = 1600 by omega]) (0, m2) ⟨⟨by show (0 : Int) ≤ 0; omega, by show (0 : Int) ≤ 1600; omega⟩, c1, rfl⟩ (by show (1600 : Int) - 0 < 20000; omega)
  obtain ⟨m', e3, k1, k2⟩ := key
  refine ⟨m', ?_, fun o o1 o2 o3 o4 o5 o6 o7 o8 => ?_, ?_, ?_, ?_, ?_⟩
  · unfold qM_lays
    simp (disch := omega) only [↓isO_M, ↓gL_H, ↓pL_H, ↓gI_M1, ↓gI_M2, ↓gI_M3, ↓gI_M4, ↓gI_M5, ↓gI_M6, ↓gI_M13, ↓gI_M22, ↓gI_M23, ↓gI_M24, ↓gI_M25, ↓gI_M27, ↓gI_M28, ↓gI_M29, ↓gI_M30, ↓gI_M31, ↓gI_M32, ↓gI_M33, ↓gI_M34, ↓gI_M35, ↓gI_M40, ↓gI_M41, ↓gI_M42, ↓gI_M43, ↓pV_M1, ↓pV_M2, ↓pV_M3, ↓pV_M4, ↓pV_M5, ↓pV_M6, ↓pV_M13, ↓pV_M22, ↓pV_M23, ↓pV_M24, ↓pV_M25, ↓pV_M27, ↓pV_M28, ↓pV_M29, ↓pV_M30, ↓pV_M31, ↓pV_M32, ↓pV_M33, ↓pV_M34, ↓pV_M35, ↓pV_M40, ↓pV_M41, ↓pV_M42, ↓pV_M43, ↓gR_M0, ↓gR_M7, ↓gR_M8, ↓gR_M9, ↓gR_M10, ↓gR_M11, ↓gR_M12, ↓gR_M14, ↓gR_M15, ↓gR_M16, ↓gR_M17, ↓gR_M18, ↓gR_M19, ↓gR_M20, ↓gR_M21, ↓gR_M36, ↓gR_M37, ↓gR_M38, ↓gR_M39, ↓rd_M1, ↓rd_M2, ↓rd_M3, ↓rd_M4, ↓rd_M5, ↓rd_M6, ↓rd_M7, ↓rd_M8, ↓rd_M9, ↓rd_M10, ↓rd_M11, ↓rd_M12, ↓rd_M13, ↓rd_M14, ↓rd_M15, ↓rd_M16, ↓rd_M17, ↓rd_M18, ↓rd_M19, ↓wr_M1, ↓wr_M2, ↓wr_M3, ↓wr_M4, ↓wr_M5, ↓wr_M6, ↓wr_M7, ↓wr_M8, ↓wr_M9, ↓wr_M10, ↓wr_M11, ↓wr_M12, ↓wr_M13, ↓wr_M14, ↓wr_M15, ↓wr_M16, ↓wr_M17, ↓wr_M18, ↓wr_M19, pL_H, pV_M1, pV_M2, pV_M3, pV_M4, pV_M5, pV_M6, pV_M13, pV_M22, pV_M23, pV_M24, pV_M25, pV_M27, pV_M28, pV_M29, pV_M30, pV_M31, pV_M32, pV_M33, pV_M34, pV_M35, pV_M40, pV_M41, pV_M42, pV_M43, rd_M1, rd_M2, rd_M3, rd_M4, rd_M5, rd_M6, rd_M7, rd_M8, rd_M9, rd_M10, rd_M11, rd_M12, rd_M13, rd_M14, rd_M15, rd_M16, rd_M17, rd_M18, rd_M19, wr_M1, wr_M2, wr_M3, wr_M4, wr_M5, wr_M6, wr_M7, wr_M8, wr_M9, wr_M10, wr_M11, wr_M12, wr_M13, wr_M14, wr_M15, wr_M16, wr_M17, wr_M18, wr_M19, J_l, J_neg, J_add, J_sub, J_mul, J_lt, J_le, J_eq, J_div2, J_rem2, J_shl1, J_orp, J_or, J_and, J_shr, J_ushr, J_max, J_min, J_abs, J_b0, ↓b0_ite, ↓b0_ite2, b0_ite, bI_r, bV_r, b01_ite, ite_true, ite_false, rZ_b, K_l, J_long, M_in, e1, e2]
    exact e3
  · rw [k1 o o8, l1.1 o o1 o2 o3 o4 o5 o6 o7]
  · rw [k1 8 (by decide), k1 9 (by decide)]
    exact l1.2.1
  · rw [k1 10 (by decide), k1 12 (by decide), k1 13 (by decide), k1 14 (by decide)]
    exact l1.2.2.1
  · rw [k1 11 (by decide)]
    exact l1.2.2.2
  · have x := (inv 1600 (by omega) (by omega)).2.2.1
    rw [good 1600 (by omega) (by omega), ← k2] at x
    exact x
theorem rk_ru (h : 0 ≤ c) : rk (ru W (184 + c) v) c = rk W c := cnt_congr fun i h1 h2 => by rw [lbl_ru h h1, if_neg (by omega)]
theorem rk_sd (h : 0 ≤ c) (hl : lbl W c < 0) : rk (ru W (184 + c) v) (c + 1) = rk W c + (if 0 ≤ v then 1 else 0) := by
  have e := lbl_ru (W := W) (v := v) h h
  rw [if_pos rfl] at e
  by_cases hv : 0 ≤ v
  · rw [rk_s1 h (by omega), rk_ru h, if_pos hv]
  · rw [rk_s0 h (by omega), rk_ru h, if_neg hv, Int.add_zero]
/-- refitting -/
theorem M_refits (hH : Hdr (m 0 3) (m 0 4) (m 0 5) n) (hn : m 0 6 = n) (hW : m 3 = W) (hL : ∀ l, 0 ≤ l → l < n → LG W l) (hlb : lblOk W) : ∃ m' r0, qM_refits y (hi y TM g w m) = rI (J (rk W 1600 - rk (m' 3) 1600)) (hi y TM g w m') ∧ (∀ i, 0 ≤ i → i < 1600 → r0 i = -2) ∧ (∀ o, o ≠ 0 → o ≠ 3 → o ≠ 8 → o ≠ 9 → o ≠ 10 → o ≠ 11 → o ≠ 12 → o ≠ 13 → o ≠ 14 → o ≠ 15 → m' o = m o) ∧ (∀ j, j ≠ 22 → m' 0 j = m 0 j) ∧ m' 3 = (rf (LO W n) (LN W n) (SN W n) (m 0 3) (m 0 4) W r0 1600).1 ∧ m' 15 = (rf (LO W n) (LN W n) (SN W n) (m 0 3) (m 0 4) W r0 1600).2 ∧ (∀ l, 0 ≤ l → l < n → m' 8 l = len W l ∧ ∀ i, 0 ≤ i → i ≤ len W l → m' 9 (400 * l + i) = Ps W l i) ∧ (∀ c, 0 ≤ c → c < 1600 → m' 10 c = LO W n c ∧ m' 12 c = SN W n c ∧ m' 13 c = SM W n c ∧ m' 14 c = LN W n c) ∧ ∀ j, 0 ≤ j → j < 6400 → m' 11 j = LVs W n j := by
  obtain ⟨hw, hh, hmt, hn8⟩ := hH
  obtain ⟨m1, e1, l1⟩ := M_laysLines (y := y) (g := g) (w := w) hn8 hL hW hn
  obtain ⟨m2, e2, c1, c2⟩ := M_clears (y := y) (g := g) (w := w) (m := m1)
  have inv := fun k h1 h2 => rf_inv (lo := LO W n) (lg := LN W n) (sn := SN W n) (wd := m 0 3) (hg := m 0 4) (r0 := m2 15) c2 hlb k h1 h2
  have hLB : ∀ l, 0 ≤ l → l < n → LB W l := fun l a b => (hL l a b).1
  have f0 : m1 0 = m 0 := l1.1 0 (by decide) (by decide) (by decide) (by decide) (by decide) (by decide) (by decide)
  have f3 : m1 3 = W := by rw [l1.1 3 (by decide) (by decide) (by decide) (by decide) (by decide) (by decide) (by decide), hW]
  have key := loopI (S := Int × CT) (fun N q => qM_refits_12 N y (J (rk W q.1 - rk (q.2 3) q.1)) (J q.1) (hi y TM g w q.2)) (fun X => ∃ m', X = rI (J (rk W 1600 - rk (m' 3) 1600)) (hi y TM g w m') ∧ (∀ o, o ≠ 0 → o ≠ 3 → o ≠ 15 → m' o = m1 o) ∧ (∀ j, j ≠ 22 → m' 0 j = m1 0 j) ∧ m' 3 = (rf (LO W n) (LN W n) (SN W n) (m 0 3) (m 0 4) W (m2 15) 1600).1 ∧ m' 15 = (rf (LO W n) (LN W n) (SN W n) (m 0 3) (m 0 4) W (m2 15) 1600).2) (fun q => (0 ≤ q.1 ∧ q.1 ≤ 1600) ∧ (∀ o, o ≠ 0 → o ≠ 3 → o ≠ 15 → q.2 o = m1 o) ∧ (∀ j, j ≠ 22 → q.2 0 j = m1 0 j) ∧ q.2 3 = (rf (LO W n) (LN W n) (SN W n) (m 0 3) (m 0 4) W (m2 15) q.1).1 ∧ q.2 15 = (rf (LO W n) (LN W n) (SN W n) (m 0 3) (m 0 4) W (m2 15) q.1).2) (fun q => 1600 - q.1) (by intro q hq; omega) (fun N q hq ih => by
    obtain ⟨t, u⟩ := q
    obtain ⟨⟨ht, ht2⟩, hu1, hu0, hu3, hu15⟩ := hq
    change 0 ≤ t at ht
    change t ≤ 1600 at ht2
    change ∀ o, o ≠ 0 → o ≠ 3 → o ≠ 15 → u o = m1 o at hu1
    change ∀ j, j ≠ 22 → u 0 j = m1 0 j at hu0
    change u 3 = (rf (LO W n) (LN W n) (SN W n) (m 0 3) (m 0 4) W (m2 15) t).1 at hu3
    change u 15 = (rf (LO W n) (LN W n) (SN W n) (m 0 3) (m 0 4) W (m2 15) t).2 at hu15
    show ∃ u', qM_refits_12_b (qM_refits_12 N) y (J (rk W t - rk (u 3) t)) (J t) (hi y TM g w u) = _ ∧ _
    unfold qM_refits_12_b
    by_cases hc : t < 1600
    · have iv := inv t ht (by omega)
      rw [← hu3, ← hu15] at iv
      have hlt : lbl (u 3) t = lbl W t := iv.1 _ (by omega)
      have f12 : u 12 t = SN W n t := by rw [hu1 12 (by decide) (by decide) (by decide)]; exact (l1.2.2.1 t ht hc).2.1
      have f14 : u 14 t = LN W n t := by rw [hu1 14 (by decide) (by decide) (by decide)]; exact (l1.2.2.1 t ht hc).2.2.2
      have b2 := LN_bd (W := W) (c := t) hn8.1 hLB
      have b3 := SN_bd (W := W) (c := t) hn8 hLB
      have b4 := rk_bd (W := W) ht
      have b5 := rk_bd (W := u 3) ht
      have b1 := hlb t ht hc
      simp (disch := omega) only [↓isO_M, ↓gL_H, ↓pL_H, ↓gI_M1, ↓gI_M2, ↓gI_M3, ↓gI_M4, ↓gI_M5, ↓gI_M6, ↓gI_M13, ↓gI_M22, ↓gI_M23, ↓gI_M24, ↓gI_M25, ↓gI_M27, ↓gI_M28, ↓gI_M29, ↓gI_M30, ↓gI_M31, ↓gI_M32, ↓gI_M33, ↓gI_M34, ↓gI_M35, ↓gI_M40, ↓gI_M41, ↓gI_M42, ↓gI_M43, ↓pV_M1, ↓pV_M2, ↓pV_M3, ↓pV_M4, ↓pV_M5, ↓pV_M6, ↓pV_M13, ↓pV_M22, ↓pV_M23, ↓pV_M24, ↓pV_M25, ↓pV_M27, ↓pV_M28, ↓pV_M29, ↓pV_M30, ↓pV_M31, ↓pV_M32, ↓pV_M33, ↓pV_M34, ↓pV_M35, ↓pV_M40, ↓pV_M41, ↓pV_M42, ↓pV_M43, ↓gR_M0, ↓gR_M7, ↓gR_M8, ↓gR_M9, ↓gR_M10, ↓gR_M11, ↓gR_M12, ↓gR_M14, ↓gR_M15, ↓gR_M16, ↓gR_M17, ↓gR_M18, ↓gR_M19, ↓gR_M20, ↓gR_M21, ↓gR_M36, ↓gR_M37, ↓gR_M38, ↓gR_M39, ↓rd_M1, ↓rd_M2, ↓rd_M3, ↓rd_M4, ↓rd_M5, ↓rd_M6, ↓rd_M7, ↓rd_M8, ↓rd_M9, ↓rd_M10, ↓rd_M11, ↓rd_M12, ↓rd_M13, ↓rd_M14, ↓rd_M15, ↓rd_M16, ↓rd_M17, ↓rd_M18, ↓rd_M19, ↓wr_M1, ↓wr_M2, ↓wr_M3, ↓wr_M4, ↓wr_M5, ↓wr_M6, ↓wr_M7, ↓wr_M8, ↓wr_M9, ↓wr_M10, ↓wr_M11, ↓wr_M12, ↓wr_M13, ↓wr_M14, ↓wr_M15, ↓wr_M16, ↓wr_M17, ↓wr_M18, ↓wr_M19, pL_H, pV_M1, pV_M2, pV_M3, pV_M4, pV_M5, pV_M6, pV_M13, pV_M22, pV_M23, pV_M24, pV_M25, pV_M27, pV_M28, pV_M29, pV_M30, pV_M31, pV_M32, pV_M33, pV_M34, pV_M35, pV_M40, pV_M41, pV_M42, pV_M43, rd_M1, rd_M2, rd_M3, rd_M4, rd_M5, rd_M6, rd_M7, rd_M8, rd_M9, rd_M10, rd_M11, rd_M12, rd_M13, rd_M14, rd_M15, rd_M16, rd_M17, rd_M18, rd_M19, wr_M1, wr_M2, wr_M3, wr_M4, wr_M5, wr_M6, wr_M7, wr_M8, wr_M9, wr_M10, wr_M11, wr_M12, wr_M13, wr_M14, wr_M15, wr_M16, wr_M17, wr_M18, wr_M19, J_l, J_neg, J_add, J_sub, J_mul, J_lt, J_le, J_eq, J_div2, J_rem2, J_shl1, J_orp, J_or, J_and, J_shr, J_ushr, J_max, J_min, J_abs, J_b0, ↓b0_ite, ↓b0_ite2, b0_ite, bI_r, bV_r, b01_ite, ite_true, ite_false, rZ_b, K_l, J_long, M_in, if_pos, M_labelOf, hlt]
      by_cases hneg : lbl W t < 0
      · rw [if_pos hneg]
        have := ih (t + 1, u) ⟨⟨by show 0 ≤ t + 1; omega, by show t + 1 ≤ 1600; omega⟩, hu1, hu0, by
          show u 3 = (rf (LO W n) (LN W n) (SN W n) (m 0 3) (m 0 4) W (m2 15) (t + 1)).1
          rw [rf_s ht, if_pos hneg, hu3], by
          show u 15 = (rf (LO W n) (LN W n) (SN W n) (m 0 3) (m 0 4) W (m2 15) (t + 1)).2
          rw [rf_s ht, if_pos hneg, hu15]⟩ (by show 1600 - (t + 1) < 1600 - t; omega)
        simp only [rk_s0 ht hneg, rk_s0 (W := u 3) ht (by omega)] at this
        exact this
      · rw [if_neg hneg]
        have hWI : WhI u := by
          refine ⟨by rw [hu0 3 (by decide), f0]; exact hw, by rw [hu0 4 (by decide), f0]; exact hh, fun i i1 i2 => ⟨?_, ?_, ?_⟩⟩
          · rw [hu1 10 (by decide) (by decide) (by decide), (l1.2.2.1 i i1 i2).1]; exact LO_nn
          · rw [hu1 14 (by decide) (by decide) (by decide), (l1.2.2.1 i i1 i2).2.2.2]; exact LN_bd hn8.1 hLB
          · exact Own_bd iv.2.2.1 (by omega) i i1 i2
        obtain ⟨v, x1⟩ := M_whyNot (y := y) (g := g) (w := w) (m := u) (c := t) (p := lbl W t) ⟨ht, hc⟩ (by omega) hWI
        have ew : whyM u t (lbl W t) = whyP (LO W n) (LN W n) (u 15) (m 0 3) (m 0 4) t (lbl W t) := by
          unfold whyM
          rw [hu0 3 (by decide), hu0 4 (by decide), f0]
          exact why_congr ⟨ht, hc⟩ hw hh (fun i i1 i2 => by rw [hu1 10 (by decide) (by decide) (by decide), (l1.2.2.1 i i1 i2).1]) f14 (fun i _ _ => Iff.rfl)
        have wv := why_val (lo := LO W n) (lg := LN W n) (lb := u 15) (wd := m 0 3) (hg := m 0 4) (c := t) (p := lbl W t)
        rw [ew] at x1
        have xp := M_isPlace (y := y) (g := g) (w := w) (m := u) (c := t) ⟨ht, hc⟩ (by omega)
        rw [f12] at xp
        simp (disch := omega) only [↓isO_M, ↓gL_H, ↓pL_H, ↓gI_M1, ↓gI_M2, ↓gI_M3, ↓gI_M4, ↓gI_M5, ↓gI_M6, ↓gI_M13, ↓gI_M22, ↓gI_M23, ↓gI_M24, ↓gI_M25, ↓gI_M27, ↓gI_M28, ↓gI_M29, ↓gI_M30, ↓gI_M31, ↓gI_M32, ↓gI_M33, ↓gI_M34, ↓gI_M35, ↓gI_M40, ↓gI_M41, ↓gI_M42, ↓gI_M43, ↓pV_M1, ↓pV_M2, ↓pV_M3, ↓pV_M4, ↓pV_M5, ↓pV_M6, ↓pV_M13, ↓pV_M22, ↓pV_M23, ↓pV_M24, ↓pV_M25, ↓pV_M27, ↓pV_M28, ↓pV_M29, ↓pV_M30, ↓pV_M31, ↓pV_M32, ↓pV_M33, ↓pV_M34, ↓pV_M35, ↓pV_M40, ↓pV_M41, ↓pV_M42, ↓pV_M43, ↓gR_M0, ↓gR_M7, ↓gR_M8, ↓gR_M9, ↓gR_M10, ↓gR_M11, ↓gR_M12, ↓gR_M14, ↓gR_M15, ↓gR_M16, ↓gR_M17, ↓gR_M18, ↓gR_M19, ↓gR_M20, ↓gR_M21, ↓gR_M36, ↓gR_M37, ↓gR_M38, ↓gR_M39, ↓rd_M1, ↓rd_M2, ↓rd_M3, ↓rd_M4, ↓rd_M5, ↓rd_M6, ↓rd_M7, ↓rd_M8, ↓rd_M9, ↓rd_M10, ↓rd_M11, ↓rd_M12, ↓rd_M13, ↓rd_M14, ↓rd_M15, ↓rd_M16, ↓rd_M17, ↓rd_M18, ↓rd_M19, ↓wr_M1, ↓wr_M2, ↓wr_M3, ↓wr_M4, ↓wr_M5, ↓wr_M6, ↓wr_M7, ↓wr_M8, ↓wr_M9, ↓wr_M10, ↓wr_M11, ↓wr_M12, ↓wr_M13, ↓wr_M14, ↓wr_M15, ↓wr_M16, ↓wr_M17, ↓wr_M18, ↓wr_M19, pL_H, pV_M1, pV_M2, pV_M3, pV_M4, pV_M5, pV_M6, pV_M13, pV_M22, pV_M23, pV_M24, pV_M25, pV_M27, pV_M28, pV_M29, pV_M30, pV_M31, pV_M32, pV_M33, pV_M34, pV_M35, pV_M40, pV_M41, pV_M42, pV_M43, rd_M1, rd_M2, rd_M3, rd_M4, rd_M5, rd_M6, rd_M7, rd_M8, rd_M9, rd_M10, rd_M11, rd_M12, rd_M13, rd_M14, rd_M15, rd_M16, rd_M17, rd_M18, rd_M19, wr_M1, wr_M2, wr_M3, wr_M4, wr_M5, wr_M6, wr_M7, wr_M8, wr_M9, wr_M10, wr_M11, wr_M12, wr_M13, wr_M14, wr_M15, wr_M16, wr_M17, wr_M18, wr_M19, J_l, J_neg, J_add, J_sub, J_mul, J_lt, J_le, J_eq, J_div2, J_rem2, J_shl1, J_orp, J_or, J_and, J_shr, J_ushr, J_max, J_min, J_abs, J_b0, ↓b0_ite, ↓b0_ite2, b0_ite, bI_r, bV_r, b01_ite, ite_true, ite_false, rZ_b, K_l, J_long, M_in, xp]
        unfold qM_refits_65
        have hlost : ∀ v, ¬(0 < SN W n t ∧ whyP (LO W n) (LN W n) (rf (LO W n) (LN W n) (SN W n) (m 0 3) (m 0 4) W (m2 15) t).2 (m 0 3) (m 0 4) t (lbl W t) = 0) → ∃ m', qM_refits_12 N y (J (rk W t - rk (u 3) t + 1)) (J (t + 1)) (hi y TM g w (rs (o22 u v) 3 (ru (u 3) (184 + t) (-2)))) = rI (J (rk W 1600 - rk (m' 3) 1600)) (hi y TM g w m') ∧ (∀ o, o ≠ 0 → o ≠ 3 → o ≠ 15 → m' o = m1 o) ∧ (∀ j, j ≠ 22 → m' 0 j = m1 0 j) ∧ m' 3 = (rf (LO W n) (LN W n) (SN W n) (m 0 3) (m 0 4) W (m2 15) 1600).1 ∧ m' 15 = (rf (LO W n) (LN W n) (SN W n) (m 0 3) (m 0 4) W (m2 15) 1600).2 := by
          intro v hno
          have e3 : rs (o22 u v) 3 (ru (u 3) (184 + t) (-2)) 3 = ru (u 3) (184 + t) (-2) := rs_same
          have := ih (t + 1, rs (o22 u v) 3 (ru (u 3) (184 + t) (-2))) ⟨⟨by show 0 ≤ t + 1; omega, by show t + 1 ≤ 1600; omega⟩, fun o o1 o2 o3 => by
            show rs (o22 u v) 3 (ru (u 3) (184 + t) (-2)) o = m1 o
            rw [rs_ne o2, o22_ne o1, hu1 o o1 o2 o3], fun j hj => by
            show rs (o22 u v) 3 (ru (u 3) (184 + t) (-2)) 0 j = m1 0 j
            rw [rs_ne (by decide), o22_0 hj, hu0 j hj], by
            show rs (o22 u v) 3 (ru (u 3) (184 + t) (-2)) 3 = (rf (LO W n) (LN W n) (SN W n) (m 0 3) (m 0 4) W (m2 15) (t + 1)).1
            rw [e3, rf_s ht, if_neg hneg, if_neg hno, hu3], by
            show rs (o22 u v) 3 (ru (u 3) (184 + t) (-2)) 15 = (rf (LO W n) (LN W n) (SN W n) (m 0 3) (m 0 4) W (m2 15) (t + 1)).2
            rw [rs_ne (by decide), o22_ne (by decide), rf_s ht, if_neg hneg, if_neg hno, hu15]⟩ (by show 1600 - (t + 1) < 1600 - t; omega)
          simp only [e3] at this
          have er : rk (ru (u 3) (184 + t) (-2)) (t + 1) = rk (u 3) t := by
            have := lbl_ru (W := u 3) (v := -2) ht ht
            rw [if_pos rfl] at this
            rw [rk_s0 ht (by omega), rk_ru ht]
          rw [rk_s1 ht (by omega), er, show rk W t + 1 - rk (u 3) t = rk W t - rk (u 3) t + 1 by omega] at this
          exact this
        by_cases hp : 0 < SN W n t
        · rw [if_pos hp]
          simp (disch := omega) only [↓isO_M, ↓gL_H, ↓pL_H, ↓gI_M1, ↓gI_M2, ↓gI_M3, ↓gI_M4, ↓gI_M5, ↓gI_M6, ↓gI_M13, ↓gI_M22, ↓gI_M23, ↓gI_M24, ↓gI_M25, ↓gI_M27, ↓gI_M28, ↓gI_M29, ↓gI_M30, ↓gI_M31, ↓gI_M32, ↓gI_M33, ↓gI_M34, ↓gI_M35, ↓gI_M40, ↓gI_M41, ↓gI_M42, ↓gI_M43, ↓pV_M1, ↓pV_M2, ↓pV_M3, ↓pV_M4, ↓pV_M5, ↓pV_M6, ↓pV_M13, ↓pV_M22, ↓pV_M23, ↓pV_M24, ↓pV_M25, ↓pV_M27, ↓pV_M28, ↓pV_M29, ↓pV_M30, ↓pV_M31, ↓pV_M32, ↓pV_M33, ↓pV_M34, ↓pV_M35, ↓pV_M40, ↓pV_M41, ↓pV_M42, ↓pV_M43, ↓gR_M0, ↓gR_M7, ↓gR_M8, ↓gR_M9, ↓gR_M10, ↓gR_M11, ↓gR_M12, ↓gR_M14, ↓gR_M15, ↓gR_M16, ↓gR_M17, ↓gR_M18, ↓gR_M19, ↓gR_M20, ↓gR_M21, ↓gR_M36, ↓gR_M37, ↓gR_M38, ↓gR_M39, ↓rd_M1, ↓rd_M2, ↓rd_M3, ↓rd_M4, ↓rd_M5, ↓rd_M6, ↓rd_M7, ↓rd_M8, ↓rd_M9, ↓rd_M10, ↓rd_M11, ↓rd_M12, ↓rd_M13, ↓rd_M14, ↓rd_M15, ↓rd_M16, ↓rd_M17, ↓rd_M18, ↓rd_M19, ↓wr_M1, ↓wr_M2, ↓wr_M3, ↓wr_M4, ↓wr_M5, ↓wr_M6, ↓wr_M7, ↓wr_M8, ↓wr_M9, ↓wr_M10, ↓wr_M11, ↓wr_M12, ↓wr_M13, ↓wr_M14, ↓wr_M15, ↓wr_M16, ↓wr_M17, ↓wr_M18, ↓wr_M19, pL_H, pV_M1, pV_M2, pV_M3, pV_M4, pV_M5, pV_M6, pV_M13, pV_M22, pV_M23, pV_M24, pV_M25, pV_M27, pV_M28, pV_M29, pV_M30, pV_M31, pV_M32, pV_M33, pV_M34, pV_M35, pV_M40, pV_M41, pV_M42, pV_M43, rd_M1, rd_M2, rd_M3, rd_M4, rd_M5, rd_M6, rd_M7, rd_M8, rd_M9, rd_M10, rd_M11, rd_M12, rd_M13, rd_M14, rd_M15, rd_M16, rd_M17, rd_M18, rd_M19, wr_M1, wr_M2, wr_M3, wr_M4, wr_M5, wr_M6, wr_M7, wr_M8, wr_M9, wr_M10, wr_M11, wr_M12, wr_M13, wr_M14, wr_M15, wr_M16, wr_M17, wr_M18, wr_M19, J_l, J_neg, J_add, J_sub, J_mul, J_lt, J_le, J_eq, J_div2, J_rem2, J_shl1, J_orp, J_or, J_and, J_shr, J_ushr, J_max, J_min, J_abs, J_b0, ↓b0_ite, ↓b0_ite2, b0_ite, bI_r, bV_r, b01_ite, ite_true, ite_false, rZ_b, K_l, J_long, M_in, x1, M_labelOf, hlt]
          by_cases h0 : whyP (LO W n) (LN W n) (u 15) (m 0 3) (m 0 4) t (lbl W t) = 0
          · rw [if_pos h0]
            have hfr := why_free h0
            have ll : lbl (o22 u v 3) t = lbl W t := by rw [o22_ne (by decide)]; exact hlt
            have x2 := M_laysLabel (y := y) (g := g) (w := w) (m := o22 u v) (c := t) (p := lbl W t) (v := t) ⟨ht, hc⟩ (by omega) (by rw [o22_ne (by decide)]; omega) hw hh (by rw [o22_ne (by decide), f14]; exact hfr.1)
            rw [o22_ne (by decide), o22_ne (by decide), f14] at x2
            simp (disch := omega) only [↓isO_M, ↓gL_H, ↓pL_H, ↓gI_M1, ↓gI_M2, ↓gI_M3, ↓gI_M4, ↓gI_M5, ↓gI_M6, ↓gI_M13, ↓gI_M22, ↓gI_M23, ↓gI_M24, ↓gI_M25, ↓gI_M27, ↓gI_M28, ↓gI_M29, ↓gI_M30, ↓gI_M31, ↓gI_M32, ↓gI_M33, ↓gI_M34, ↓gI_M35, ↓gI_M40, ↓gI_M41, ↓gI_M42, ↓gI_M43, ↓pV_M1, ↓pV_M2, ↓pV_M3, ↓pV_M4, ↓pV_M5, ↓pV_M6, ↓pV_M13, ↓pV_M22, ↓pV_M23, ↓pV_M24, ↓pV_M25, ↓pV_M27, ↓pV_M28, ↓pV_M29, ↓pV_M30, ↓pV_M31, ↓pV_M32, ↓pV_M33, ↓pV_M34, ↓pV_M35, ↓pV_M40, ↓pV_M41, ↓pV_M42, ↓pV_M43, ↓gR_M0, ↓gR_M7, ↓gR_M8, ↓gR_M9, ↓gR_M10, ↓gR_M11, ↓gR_M12, ↓gR_M14, ↓gR_M15, ↓gR_M16, ↓gR_M17, ↓gR_M18, ↓gR_M19, ↓gR_M20, ↓gR_M21, ↓gR_M36, ↓gR_M37, ↓gR_M38, ↓gR_M39, ↓rd_M1, ↓rd_M2, ↓rd_M3, ↓rd_M4, ↓rd_M5, ↓rd_M6, ↓rd_M7, ↓rd_M8, ↓rd_M9, ↓rd_M10, ↓rd_M11, ↓rd_M12, ↓rd_M13, ↓rd_M14, ↓rd_M15, ↓rd_M16, ↓rd_M17, ↓rd_M18, ↓rd_M19, ↓wr_M1, ↓wr_M2, ↓wr_M3, ↓wr_M4, ↓wr_M5, ↓wr_M6, ↓wr_M7, ↓wr_M8, ↓wr_M9, ↓wr_M10, ↓wr_M11, ↓wr_M12, ↓wr_M13, ↓wr_M14, ↓wr_M15, ↓wr_M16, ↓wr_M17, ↓wr_M18, ↓wr_M19, pL_H, pV_M1, pV_M2, pV_M3, pV_M4, pV_M5, pV_M6, pV_M13, pV_M22, pV_M23, pV_M24, pV_M25, pV_M27, pV_M28, pV_M29, pV_M30, pV_M31, pV_M32, pV_M33, pV_M34, pV_M35, pV_M40, pV_M41, pV_M42, pV_M43, rd_M1, rd_M2, rd_M3, rd_M4, rd_M5, rd_M6, rd_M7, rd_M8, rd_M9, rd_M10, rd_M11, rd_M12, rd_M13, rd_M14, rd_M15, rd_M16, rd_M17, rd_M18, rd_M19, wr_M1, wr_M2, wr_M3, wr_M4, wr_M5, wr_M6, wr_M7, wr_M8, wr_M9, wr_M10, wr_M11, wr_M12, wr_M13, wr_M14, wr_M15, wr_M16, wr_M17, wr_M18, wr_M19, J_l, J_neg, J_add, J_sub, J_mul, J_lt, J_le, J_eq, J_div2, J_rem2, J_shl1, J_orp, J_or, J_and, J_shr, J_ushr, J_max, J_min, J_abs, J_b0, ↓b0_ite, ↓b0_ite2, b0_ite, bI_r, bV_r, b01_ite, ite_true, ite_false, rZ_b, K_l, J_long, M_in, M_labelOf, ll, x2]
            have hno : 0 < SN W n t ∧ whyP (LO W n) (LN W n) (rf (LO W n) (LN W n) (SN W n) (m 0 3) (m 0 4) W (m2 15) t).2 (m 0 3) (m 0 4) t (lbl W t) = 0 := ⟨hp, by rw [← hu15]; exact h0⟩
            have := ih (t + 1, rs (o22 u v) 15 (pnt (u 15) (fr t (lbl W t) (LN W n t)) (LN W n t) t)) ⟨⟨by show 0 ≤ t + 1; omega, by show t + 1 ≤ 1600; omega⟩, fun o o1 o2 o3 => by
              show rs (o22 u v) 15 (pnt (u 15) (fr t (lbl W t) (LN W n t)) (LN W n t) t) o = m1 o
              rw [rs_ne o3, o22_ne o1, hu1 o o1 o2 o3], fun j hj => by
              show rs (o22 u v) 15 (pnt (u 15) (fr t (lbl W t) (LN W n t)) (LN W n t) t) 0 j = m1 0 j
              rw [rs_ne (by decide), o22_0 hj, hu0 j hj], by
              show rs (o22 u v) 15 (pnt (u 15) (fr t (lbl W t) (LN W n t)) (LN W n t) t) 3 = (rf (LO W n) (LN W n) (SN W n) (m 0 3) (m 0 4) W (m2 15) (t + 1)).1
              rw [rs_ne (by decide), o22_ne (by decide), rf_s ht, if_neg hneg, if_pos hno, hu3], by
              show rs (o22 u v) 15 (pnt (u 15) (fr t (lbl W t) (LN W n t)) (LN W n t) t) 15 = (rf (LO W n) (LN W n) (SN W n) (m 0 3) (m 0 4) W (m2 15) (t + 1)).2
              rw [rs_same, rf_s ht, if_neg hneg, if_pos hno, hu15]⟩ (by show 1600 - (t + 1) < 1600 - t; omega)
            have e3 : rs (o22 u v) 15 (pnt (u 15) (fr t (lbl W t) (LN W n t)) (LN W n t) t) 3 = u 3 := by rw [rs_ne (by decide), o22_ne (by decide)]
            simp only [e3] at this
            rw [rk_s1 ht (by omega), rk_s1 (W := u 3) ht (by omega), show rk W t + 1 - (rk (u 3) t + 1) = rk W t - rk (u 3) t by omega] at this
            exact this
          · rw [if_neg h0]
            have e3 : o22 u v 3 = u 3 := o22_ne (by decide)
            simp (disch := omega) only [↓isO_M, ↓gL_H, ↓pL_H, ↓gI_M1, ↓gI_M2, ↓gI_M3, ↓gI_M4, ↓gI_M5, ↓gI_M6, ↓gI_M13, ↓gI_M22, ↓gI_M23, ↓gI_M24, ↓gI_M25, ↓gI_M27, ↓gI_M28, ↓gI_M29, ↓gI_M30, ↓gI_M31, ↓gI_M32, ↓gI_M33, ↓gI_M34, ↓gI_M35, ↓gI_M40, ↓gI_M41, ↓gI_M42, ↓gI_M43, ↓pV_M1, ↓pV_M2, ↓pV_M3, ↓pV_M4, ↓pV_M5, ↓pV_M6, ↓pV_M13, ↓pV_M22, ↓pV_M23, ↓pV_M24, ↓pV_M25, ↓pV_M27, ↓pV_M28, ↓pV_M29, ↓pV_M30, ↓pV_M31, ↓pV_M32, ↓pV_M33, ↓pV_M34, ↓pV_M35, ↓pV_M40, ↓pV_M41, ↓pV_M42, ↓pV_M43, ↓gR_M0, ↓gR_M7, ↓gR_M8, ↓gR_M9, ↓gR_M10, ↓gR_M11, ↓gR_M12, ↓gR_M14, ↓gR_M15, ↓gR_M16, ↓gR_M17, ↓gR_M18, ↓gR_M19, ↓gR_M20, ↓gR_M21, ↓gR_M36, ↓gR_M37, ↓gR_M38, ↓gR_M39, ↓rd_M1, ↓rd_M2, ↓rd_M3, ↓rd_M4, ↓rd_M5, ↓rd_M6, ↓rd_M7, ↓rd_M8, ↓rd_M9, ↓rd_M10, ↓rd_M11, ↓rd_M12, ↓rd_M13, ↓rd_M14, ↓rd_M15, ↓rd_M16, ↓rd_M17, ↓rd_M18, ↓rd_M19, ↓wr_M1, ↓wr_M2, ↓wr_M3, ↓wr_M4, ↓wr_M5, ↓wr_M6, ↓wr_M7, ↓wr_M8, ↓wr_M9, ↓wr_M10, ↓wr_M11, ↓wr_M12, ↓wr_M13, ↓wr_M14, ↓wr_M15, ↓wr_M16, ↓wr_M17, ↓wr_M18, ↓wr_M19, pL_H, pV_M1, pV_M2, pV_M3, pV_M4, pV_M5, pV_M6, pV_M13, pV_M22, pV_M23, pV_M24, pV_M25, pV_M27, pV_M28, pV_M29, pV_M30, pV_M31, pV_M32, pV_M33, pV_M34, pV_M35, pV_M40, pV_M41, pV_M42, pV_M43, rd_M1, rd_M2, rd_M3, rd_M4, rd_M5, rd_M6, rd_M7, rd_M8, rd_M9, rd_M10, rd_M11, rd_M12, rd_M13, rd_M14, rd_M15, rd_M16, rd_M17, rd_M18, rd_M19, wr_M1, wr_M2, wr_M3, wr_M4, wr_M5, wr_M6, wr_M7, wr_M8, wr_M9, wr_M10, wr_M11, wr_M12, wr_M13, wr_M14, wr_M15, wr_M16, wr_M17, wr_M18, wr_M19, J_l, J_neg, J_add, J_sub, J_mul, J_lt, J_le, J_eq, J_div2, J_rem2, J_shl1, J_orp, J_or, J_and, J_shr, J_ushr, J_max, J_min, J_abs, J_b0, ↓b0_ite, ↓b0_ite2, b0_ite, bI_r, bV_r, b01_ite, ite_true, ite_false, rZ_b, K_l, J_long, M_in, e3]
            exact hlost v (fun hx => h0 (by rw [hu15]; exact hx.2))
        · rw [if_neg hp]
          have := hlost (u 0 22) (fun hx => hp hx.1)
          rw [o22_self] at this
          simp (disch := omega) only [↓isO_M, ↓gL_H, ↓pL_H, ↓gI_M1, ↓gI_M2, ↓gI_M3, ↓gI_M4, ↓gI_M5, ↓gI_M6, ↓gI_M13, ↓gI_M22, ↓gI_M23, ↓gI_M24, ↓gI_M25, ↓gI_M27, ↓gI_M28, ↓gI_M29, ↓gI_M30, ↓gI_M31, ↓gI_M32, ↓gI_M33, ↓gI_M34, ↓gI_M35, ↓gI_M40, ↓gI_M41, ↓gI_M42, ↓gI_M43, ↓pV_M1, ↓pV_M2, ↓pV_M3, ↓pV_M4, ↓pV_M5, ↓pV_M6, ↓pV_M13, ↓pV_M22, ↓pV_M23, ↓pV_M24, ↓pV_M25, ↓pV_M27, ↓pV_M28, ↓pV_M29, ↓pV_M30, ↓pV_M31, ↓pV_M32, ↓pV_M33, ↓pV_M34, ↓pV_M35, ↓pV_M40, ↓pV_M41, ↓pV_M42, ↓pV_M43, ↓gR_M0, ↓gR_M7, ↓gR_M8, ↓gR_M9, ↓gR_M10, ↓gR_M11, ↓gR_M12, ↓gR_M14, ↓gR_M15, ↓gR_M16, ↓gR_M17, ↓gR_M18, ↓gR_M19, ↓gR_M20, ↓gR_M21, ↓gR_M36, ↓gR_M37, ↓gR_M38, ↓gR_M39, ↓rd_M1, ↓rd_M2, ↓rd_M3, ↓rd_M4, ↓rd_M5, ↓rd_M6, ↓rd_M7, ↓rd_M8, ↓rd_M9, ↓rd_M10, ↓rd_M11, ↓rd_M12, ↓rd_M13, ↓rd_M14, ↓rd_M15, ↓rd_M16, ↓rd_M17, ↓rd_M18, ↓rd_M19, ↓wr_M1, ↓wr_M2, ↓wr_M3, ↓wr_M4, ↓wr_M5, ↓wr_M6, ↓wr_M7, ↓wr_M8, ↓wr_M9, ↓wr_M10, ↓wr_M11, ↓wr_M12, ↓wr_M13, ↓wr_M14, ↓wr_M15, ↓wr_M16, ↓wr_M17, ↓wr_M18, ↓wr_M19, pL_H, pV_M1, pV_M2, pV_M3, pV_M4, pV_M5, pV_M6, pV_M13, pV_M22, pV_M23, pV_M24, pV_M25, pV_M27, pV_M28, pV_M29, pV_M30, pV_M31, pV_M32, pV_M33, pV_M34, pV_M35, pV_M40, pV_M41, pV_M42, pV_M43, rd_M1, rd_M2, rd_M3, rd_M4, rd_M5, rd_M6, rd_M7, rd_M8, rd_M9, rd_M10, rd_M11, rd_M12, rd_M13, rd_M14, rd_M15, rd_M16, rd_M17, rd_M18, rd_M19, wr_M1, wr_M2, wr_M3, wr_M4, wr_M5, wr_M6, wr_M7, wr_M8, wr_M9, wr_M10, wr_M11, wr_M12, wr_M13, wr_M14, wr_M15, wr_M16, wr_M17, wr_M18, wr_M19, J_l, J_neg, J_add, J_sub, J_mul, J_lt, J_le, J_eq, J_div2, J_rem2, J_shl1, J_orp, J_or, J_and, J_shr, J_ushr, J_max, J_min, J_abs, J_b0, ↓b0_ite, ↓b0_ite2, b0_ite, bI_r, bV_r, b01_ite, ite_true, ite_false, rZ_b, K_l, J_long, M_in]
          exact this
    · have et : t = 1600 := by omega
      subst et
      simp (disch := omega) only [↓isO_M, ↓gL_H, ↓pL_H, ↓gI_M1, ↓gI_M2, ↓gI_M3, ↓gI_M4, ↓gI_M5, ↓gI_M6, ↓gI_M13, ↓gI_M22, ↓gI_M23, ↓gI_M24, ↓gI_M25, ↓gI_M27, ↓gI_M28, ↓gI_M29, ↓gI_M30, ↓gI_M31, ↓gI_M32, ↓gI_M33, ↓gI_M34, ↓gI_M35, ↓gI_M40, ↓gI_M41, ↓gI_M42, ↓gI_M43, ↓pV_M1, ↓pV_M2, ↓pV_M3, ↓pV_M4, ↓pV_M5, ↓pV_M6, ↓pV_M13, ↓pV_M22, ↓pV_M23, ↓pV_M24, ↓pV_M25, ↓pV_M27, ↓pV_M28, ↓pV_M29, ↓pV_M30, ↓pV_M31, ↓pV_M32, ↓pV_M33, ↓pV_M34, ↓pV_M35, ↓pV_M40, ↓pV_M41, ↓pV_M42, ↓pV_M43, ↓gR_M0, ↓gR_M7, ↓gR_M8, ↓gR_M9, ↓gR_M10, ↓gR_M11, ↓gR_M12, ↓gR_M14, ↓gR_M15, ↓gR_M16, ↓gR_M17, ↓gR_M18, ↓gR_M19, ↓gR_M20, ↓gR_M21, ↓gR_M36, ↓gR_M37, ↓gR_M38, ↓gR_M39, ↓rd_M1, ↓rd_M2, ↓rd_M3, ↓rd_M4, ↓rd_M5, ↓rd_M6, ↓rd_M7, ↓rd_M8, ↓rd_M9, ↓rd_M10, ↓rd_M11, ↓rd_M12, ↓rd_M13, ↓rd_M14, ↓rd_M15, ↓rd_M16, ↓rd_M17, ↓rd_M18, ↓rd_M19, ↓wr_M1, ↓wr_M2, ↓wr_M3, ↓wr_M4, ↓wr_M5, ↓wr_M6, ↓wr_M7, ↓wr_M8, ↓wr_M9, ↓wr_M10, ↓wr_M11, ↓wr_M12, ↓wr_M13, ↓wr_M14, ↓wr_M15, ↓wr_M16, ↓wr_M17, ↓wr_M18, ↓wr_M19, pL_H, pV_M1, pV_M2, pV_M3, pV_M4, pV_M5, pV_M6, pV_M13, pV_M22, pV_M23, pV_M24, pV_M25, pV_M27, pV_M28, pV_M29, pV_M30, pV_M31, pV_M32, pV_M33, pV_M34, pV_M35, pV_M40, pV_M41, pV_M42, pV_M43, rd_M1, rd_M2, rd_M3, rd_M4, rd_M5, rd_M6, rd_M7, rd_M8, rd_M9, rd_M10, rd_M11, rd_M12, rd_M13, rd_M14, rd_M15, rd_M16, rd_M17, rd_M18, rd_M19, wr_M1, wr_M2, wr_M3, wr_M4, wr_M5, wr_M6, wr_M7, wr_M8, wr_M9, wr_M10, wr_M11, wr_M12, wr_M13, wr_M14, wr_M15, wr_M16, wr_M17, wr_M18, wr_M19, J_l, J_neg, J_add, J_sub, J_mul, J_lt, J_le, J_eq, J_div2, J_rem2, J_shl1, J_orp, J_or, J_and, J_shr, J_ushr, J_max, J_min, J_abs, J_b0, ↓b0_ite, ↓b0_ite2, b0_ite, bI_r, bV_r, b01_ite, ite_true, ite_false, rZ_b, K_l, J_long, M_in, if_neg]
      exact ⟨u, rfl, hu1, hu0, hu3, hu15⟩) (0, m2) ⟨⟨by show (0 : Int) ≤ 0; omega, by show (0 : Int) ≤ 1600; omega⟩, fun o o1 o2 o3 => c1 o o3, fun j hj => by show m2 0 j = m1 0 j; rw [c1 0 (by decide)], by show m2 3 = W; rw [c1 3 (by decide), f3], rfl⟩ (by show (1600 : Int) - 0 < 20000; omega)
  obtain ⟨m', e3, k1, k2, k3, k4⟩ := key
  refine ⟨m', m2 15, ?_, c2, fun o o1 o2 o3 o4 o5 o6 o7 o8 o9 o10 => ?_, fun j hj => ?_, k3, k4, ?_, ?_, ?_⟩
  · unfold qM_refits
    simp (disch := omega) only [↓isO_M, ↓gL_H, ↓pL_H, ↓gI_M1, ↓gI_M2, ↓gI_M3, ↓gI_M4, ↓gI_M5, ↓gI_M6, ↓gI_M13, ↓gI_M22, ↓gI_M23, ↓gI_M24, ↓gI_M25, ↓gI_M27, ↓gI_M28, ↓gI_M29, ↓gI_M30, ↓gI_M31, ↓gI_M32, ↓gI_M33, ↓gI_M34, ↓gI_M35, ↓gI_M40, ↓gI_M41, ↓gI_M42, ↓gI_M43, ↓pV_M1, ↓pV_M2, ↓pV_M3, ↓pV_M4, ↓pV_M5, ↓pV_M6, ↓pV_M13, ↓pV_M22, ↓pV_M23, ↓pV_M24, ↓pV_M25, ↓pV_M27, ↓pV_M28, ↓pV_M29, ↓pV_M30, ↓pV_M31, ↓pV_M32, ↓pV_M33, ↓pV_M34, ↓pV_M35, ↓pV_M40, ↓pV_M41, ↓pV_M42, ↓pV_M43, ↓gR_M0, ↓gR_M7, ↓gR_M8, ↓gR_M9, ↓gR_M10, ↓gR_M11, ↓gR_M12, ↓gR_M14, ↓gR_M15, ↓gR_M16, ↓gR_M17, ↓gR_M18, ↓gR_M19, ↓gR_M20, ↓gR_M21, ↓gR_M36, ↓gR_M37, ↓gR_M38, ↓gR_M39, ↓rd_M1, ↓rd_M2, ↓rd_M3, ↓rd_M4, ↓rd_M5, ↓rd_M6, ↓rd_M7, ↓rd_M8, ↓rd_M9, ↓rd_M10, ↓rd_M11, ↓rd_M12, ↓rd_M13, ↓rd_M14, ↓rd_M15, ↓rd_M16, ↓rd_M17, ↓rd_M18, ↓rd_M19, ↓wr_M1, ↓wr_M2, ↓wr_M3, ↓wr_M4, ↓wr_M5, ↓wr_M6, ↓wr_M7, ↓wr_M8, ↓wr_M9, ↓wr_M10, ↓wr_M11, ↓wr_M12, ↓wr_M13, ↓wr_M14, ↓wr_M15, ↓wr_M16, ↓wr_M17, ↓wr_M18, ↓wr_M19, pL_H, pV_M1, pV_M2, pV_M3, pV_M4, pV_M5, pV_M6, pV_M13, pV_M22, pV_M23, pV_M24, pV_M25, pV_M27, pV_M28, pV_M29, pV_M30, pV_M31, pV_M32, pV_M33, pV_M34, pV_M35, pV_M40, pV_M41, pV_M42, pV_M43, rd_M1, rd_M2, rd_M3, rd_M4, rd_M5, rd_M6, rd_M7, rd_M8, rd_M9, rd_M10, rd_M11, rd_M12, rd_M13, rd_M14, rd_M15, rd_M16, rd_M17, rd_M18, rd_M19, wr_M1, wr_M2, wr_M3, wr_M4, wr_M5, wr_M6, wr_M7, wr_M8, wr_M9, wr_M10, wr_M11, wr_M12, wr_M13, wr_M14, wr_M15, wr_M16, wr_M17, wr_M18, wr_M19, J_l, J_neg, J_add, J_sub, J_mul, J_lt, J_le, J_eq, J_div2, J_rem2, J_shl1, J_orp, J_or, J_and, J_shr, J_ushr, J_max, J_min, J_abs, J_b0, ↓b0_ite, ↓b0_ite2, b0_ite, bI_r, bV_r, b01_ite, ite_true, ite_false, rZ_b, K_l, J_long, M_in, e1, e2]
    exact e3
  · rw [k1 o o1 o2 o10, l1.1 o o3 o4 o5 o6 o7 o8 o9]
  · rw [k2 j hj, f0]
  · rw [k1 8 (by decide) (by decide) (by decide), k1 9 (by decide) (by decide) (by decide)]
    exact l1.2.1
  · rw [k1 10 (by decide) (by decide) (by decide), k1 12 (by decide) (by decide) (by decide), k1 13 (by decide) (by decide) (by decide), k1 14 (by decide) (by decide) (by decide)]
    exact l1.2.2.1
  · rw [k1 11 (by decide) (by decide) (by decide)]
    exact l1.2.2.2
end MB
