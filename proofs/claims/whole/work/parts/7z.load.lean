/-! a setup text is loaded on both sides -/
section LD
variable {z y : Nat} {g g' : XH} {w w' : Int64} {s s' s0 s1 s2 m m' m0 m1 m2 : CT} {G W W' V W1 row row' r0 nm lo lg sn f : Int → Int} {wd hg mt c i j l n p v t k x xx yy N q o to : Int} {a b : Nat} {h : XH}
variable {k r u e d lw up st nv zv tv E : Int} {w1 w2 w3 : Int64} {x1 x2 x3 x4 x5 : Int32} {N1 N2 D : Nat} {P Q : XR}
theorem Inv_err (h : Inv s m) (hs : ∀ o, (5 < o ∧ o < 35) ∨ 63 < o → s' o = s o) (hm : ∀ o, o ≠ 0 → o ≠ 1 → o ≠ 16 → o ≠ 17 → m' o = m o) (hm0 : ∀ i, 3 ≤ i ∧ i ≤ 13 → m' 0 i = m 0 i) (hT : TapeI s' m') (hE : ErrI s' m') : Inv s' m' := by
  obtain ⟨h1, h2, ⟨h3, h3n, h4, row, h5, h5'⟩, h6, h7⟩ := h
  have hn8 : m 0 6 ≤ 8 := h3.2.2.2.2
  have eW : ∀ i, undoW m' i = undoW m i := fun i => by unfold undoW; rw [hm 5 (by decide) (by decide) (by decide) (by decide)]
  have eS : ∀ i, slotW m' i = slotW m i := fun i => by unfold slotW; rw [hm 6 (by decide) (by decide) (by decide) (by decide)]
  have j3 := hm0 3 (by decide)
  have j4 := hm0 4 (by decide)
  have j5 := hm0 5 (by decide)
  have j6 := hm0 6 (by decide)
  have j13 := hm0 13 (by decide)
  have k2 := hm 2 (by decide) (by decide) (by decide) (by decide)
  have k3 := hm 3 (by decide) (by decide) (by decide) (by decide)
  have k7 := hm 7 (by decide) (by decide) (by decide) (by decide)
  refine ⟨hT, hE, ⟨?_, ?_, ?_, row, ?_, ?_⟩, ?_, ?_⟩
  · rw [j3, j4, j5, j6]; exact h3
  · rw [j6, k2]; exact h3n
  · rw [j3, j4, j5, j6, k2, k3]
    exact PlanI_fr hn8 (fun o o1 o2 => hs o (by omega)) h4
  · rw [j3, j4, j6, k3]
    exact BdI_fr2 (fun o o1 o2 => hs o (by omega)) h5
  · rw [j6, k3]
    exact h5'
  · intro j j0 j00
    have x := h6 j j0 j00
    rw [hs 65 (by decide), k7, j3, j4, j5, j6, k2, eS]
    exact ⟨x.1, x.2.1, fun hh => PlanI_fr hn8 (fun o o1 o2 => hs o (by omega)) (x.2.2 hh)⟩
  · obtain ⟨x1, x2, x3, x4⟩ := h7
    unfold HistI
    rw [hs 66 (by decide), j13, j3, j4, j5, j6, k2]
    refine ⟨x1, x2, x3, fun i i1 i2 => ?_⟩
    rw [eW]
    exact PlanI_fr hn8 (fun o o1 o2 => hs o (by omega)) (x4 i i1 i2)
/-- the model's empty rows -/
def EmM (m m' : CT) (n : Int) : Prop := (∀ o, o ≠ 3 → m' o = m o) ∧ ∀ j, 0 ≤ j → j < n → m' 3 j = if j < 184 then 0 else -2
theorem M_empties : ∃ m', qM_empties y (hi y TM g w m) = rV (hi y TM g w (rs (rs m' 7 (ru (ru (m 7) 0 0) 1 0)) 0 (ru (m 0) 13 0))) ∧ EmM m m' 1784 := by
  unfold qM_empties
  refine loopI (S := Int × CT) (fun N p => qM_empties_2 N y (J p.1) (hi y TM g w p.2)) (fun X => ∃ m', X = rV (hi y TM g w (rs (rs m' 7 (ru (ru (m 7) 0 0) 1 0)) 0 (ru (m 0) 13 0))) ∧ EmM m m' 1784) (fun p => (0 ≤ p.1 ∧ p.1 ≤ 1784) ∧ EmM m p.2 p.1) (fun p => 1784 - p.1) (by intro p hp; omega) (fun N p hp ih => ?_) (0, m) ⟨⟨Int.le_refl 0, by show (0 : Int) ≤ 1784; omega⟩, fun o _ => rfl, fun j j0 j1 => by exact absurd j1 (by show ¬j < 0; omega)⟩ (by show (1784 : Int) - 0 < 20000; omega)
  obtain ⟨i, m1⟩ := p
  change (0 ≤ i ∧ i ≤ 1784) ∧ EmM m m1 i at hp
  obtain ⟨i1, i2, i3⟩ := hp
  show ∃ m', qM_empties_2_b (qM_empties_2 N) y (J i) (hi y TM g w m1) = _ ∧ _
  unfold qM_empties_2_b
  simp (disch := omega) only [↓isO_M, ↓gL_H, ↓pL_H, ↓gI_M1, ↓gI_M2, ↓gI_M3, ↓gI_M4, ↓gI_M5, ↓gI_M6, ↓gI_M13, ↓gI_M22, ↓gI_M23, ↓gI_M24, ↓gI_M25, ↓gI_M27, ↓gI_M28, ↓gI_M29, ↓gI_M30, ↓gI_M31, ↓gI_M32, ↓gI_M33, ↓gI_M34, ↓gI_M35, ↓gI_M40, ↓gI_M41, ↓gI_M42, ↓gI_M43, ↓pV_M1, ↓pV_M2, ↓pV_M3, ↓pV_M4, ↓pV_M5, ↓pV_M6, ↓pV_M13, ↓pV_M22, ↓pV_M23, ↓pV_M24, ↓pV_M25, ↓pV_M27, ↓pV_M28, ↓pV_M29, ↓pV_M30, ↓pV_M31, ↓pV_M32, ↓pV_M33, ↓pV_M34, ↓pV_M35, ↓pV_M40, ↓pV_M41, ↓pV_M42, ↓pV_M43, ↓gR_M0, ↓gR_M7, ↓gR_M8, ↓gR_M9, ↓gR_M10, ↓gR_M11, ↓gR_M12, ↓gR_M14, ↓gR_M15, ↓gR_M16, ↓gR_M17, ↓gR_M18, ↓gR_M19, ↓gR_M20, ↓gR_M21, ↓gR_M36, ↓gR_M37, ↓gR_M38, ↓gR_M39, ↓rd_M1, ↓rd_M2, ↓rd_M3, ↓rd_M4, ↓rd_M5, ↓rd_M6, ↓rd_M7, ↓rd_M8, ↓rd_M9, ↓rd_M10, ↓rd_M11, ↓rd_M12, ↓rd_M13, ↓rd_M14, ↓rd_M15, ↓rd_M16, ↓rd_M17, ↓rd_M18, ↓rd_M19, ↓wr_M1, ↓wr_M2, ↓wr_M3, ↓wr_M4, ↓wr_M5, ↓wr_M6, ↓wr_M7, ↓wr_M8, ↓wr_M9, ↓wr_M10, ↓wr_M11, ↓wr_M12, ↓wr_M13, ↓wr_M14, ↓wr_M15, ↓wr_M16, ↓wr_M17, ↓wr_M18, ↓wr_M19, pL_H, pV_M1, pV_M2, pV_M3, pV_M4, pV_M5, pV_M6, pV_M13, pV_M22, pV_M23, pV_M24, pV_M25, pV_M27, pV_M28, pV_M29, pV_M30, pV_M31, pV_M32, pV_M33, pV_M34, pV_M35, pV_M40, pV_M41, pV_M42, pV_M43, rd_M1, rd_M2, rd_M3, rd_M4, rd_M5, rd_M6, rd_M7, rd_M8, rd_M9, rd_M10, rd_M11, rd_M12, rd_M13, rd_M14, rd_M15, rd_M16, rd_M17, rd_M18, rd_M19, wr_M1, wr_M2, wr_M3, wr_M4, wr_M5, wr_M6, wr_M7, wr_M8, wr_M9, wr_M10, wr_M11, wr_M12, wr_M13, wr_M14, wr_M15, wr_M16, wr_M17, wr_M18, wr_M19, J_l, J_neg, J_add, J_sub, J_mul, J_lt, J_le, J_eq, J_div2, J_rem2, J_shl1, J_orp, J_or, J_and, J_shr, J_ushr, J_max, J_min, J_abs, J_b0, ↓b0_ite, ↓b0_ite2, b0_ite, bI_r, bV_r, b01_ite, ite_true, ite_false, rZ_b, K_l, J_long, M_in]
  by_cases hc : i < 1784
  · rw [if_pos hc]
    have nx : ∀ v : Int, (v = if i < 184 then 0 else -2) → ∃ m', qM_empties_2 N y (J (i + 1)) (hi y TM g w (rs m1 3 (ru (m1 3) i v))) = rV (hi y TM g w (rs (rs m' 7 (ru (ru (m 7) 0 0) 1 0)) 0 (ru (m 0) 13 0))) ∧ EmM m m' 1784 := fun v hv => by
      refine ih (i + 1, rs m1 3 (ru (m1 3) i v)) ⟨by show 0 ≤ i + 1 ∧ i + 1 ≤ 1784; omega, fun o ho => ?_, fun j j0 j1 => ?_⟩ (by show 1784 - (i + 1) < 1784 - i; omega)
      · show rs m1 3 (ru (m1 3) i v) o = m o
        rw [rs_ne ho]; exact i2 o ho
      · show rs m1 3 (ru (m1 3) i v) 3 j = _
        change j < i + 1 at j1
        rw [rs_same]
        by_cases e : j = i
        · rw [e, ru_same]; exact hv
        · rw [ru_ne e]; exact i3 j j0 (by omega)
    unfold qM_empties_27
    by_cases h1 : i < 184
    · rw [if_pos h1] at nx ⊢
      simp (disch := omega) only [↓isO_M, ↓gL_H, ↓pL_H, ↓gI_M1, ↓gI_M2, ↓gI_M3, ↓gI_M4, ↓gI_M5, ↓gI_M6, ↓gI_M13, ↓gI_M22, ↓gI_M23, ↓gI_M24, ↓gI_M25, ↓gI_M27, ↓gI_M28, ↓gI_M29, ↓gI_M30, ↓gI_M31, ↓gI_M32, ↓gI_M33, ↓gI_M34, ↓gI_M35, ↓gI_M40, ↓gI_M41, ↓gI_M42, ↓gI_M43, ↓pV_M1, ↓pV_M2, ↓pV_M3, ↓pV_M4, ↓pV_M5, ↓pV_M6, ↓pV_M13, ↓pV_M22, ↓pV_M23, ↓pV_M24, ↓pV_M25, ↓pV_M27, ↓pV_M28, ↓pV_M29, ↓pV_M30, ↓pV_M31, ↓pV_M32, ↓pV_M33, ↓pV_M34, ↓pV_M35, ↓pV_M40, ↓pV_M41, ↓pV_M42, ↓pV_M43, ↓gR_M0, ↓gR_M7, ↓gR_M8, ↓gR_M9, ↓gR_M10, ↓gR_M11, ↓gR_M12, ↓gR_M14, ↓gR_M15, ↓gR_M16, ↓gR_M17, ↓gR_M18, ↓gR_M19, ↓gR_M20, ↓gR_M21, ↓gR_M36, ↓gR_M37, ↓gR_M38, ↓gR_M39, ↓rd_M1, ↓rd_M2, ↓rd_M3, ↓rd_M4, ↓rd_M5, ↓rd_M6, ↓rd_M7, ↓rd_M8, ↓rd_M9, ↓rd_M10, ↓rd_M11, ↓rd_M12, ↓rd_M13, ↓rd_M14, ↓rd_M15, ↓rd_M16, ↓rd_M17, ↓rd_M18, ↓rd_M19, ↓wr_M1, ↓wr_M2, ↓wr_M3, ↓wr_M4, ↓wr_M5, ↓wr_M6, ↓wr_M7, ↓wr_M8, ↓wr_M9, ↓wr_M10, ↓wr_M11, ↓wr_M12, ↓wr_M13, ↓wr_M14, ↓wr_M15, ↓wr_M16, ↓wr_M17, ↓wr_M18, ↓wr_M19, pL_H, pV_M1, pV_M2, pV_M3, pV_M4, pV_M5, pV_M6, pV_M13, pV_M22, pV_M23, pV_M24, pV_M25, pV_M27, pV_M28, pV_M29, pV_M30, pV_M31, pV_M32, pV_M33, pV_M34, pV_M35, pV_M40, pV_M41, pV_M42, pV_M43, rd_M1, rd_M2, rd_M3, rd_M4, rd_M5, rd_M6, rd_M7, rd_M8, rd_M9, rd_M10, rd_M11, rd_M12, rd_M13, rd_M14, rd_M15, rd_M16, rd_M17, rd_M18, rd_M19, wr_M1, wr_M2, wr_M3, wr_M4, wr_M5, wr_M6, wr_M7, wr_M8, wr_M9, wr_M10, wr_M11, wr_M12, wr_M13, wr_M14, wr_M15, wr_M16, wr_M17, wr_M18, wr_M19, J_l, J_neg, J_add, J_sub, J_mul, J_lt, J_le, J_eq, J_div2, J_rem2, J_shl1, J_orp, J_or, J_and, J_shr, J_ushr, J_max, J_min, J_abs, J_b0, ↓b0_ite, ↓b0_ite2, b0_ite, bI_r, bV_r, b01_ite, ite_true, ite_false, rZ_b, K_l, J_long, M_in]
      exact nx 0 rfl
    · rw [if_neg h1] at nx ⊢
      simp (disch := omega) only [↓isO_M, ↓gL_H, ↓pL_H, ↓gI_M1, ↓gI_M2, ↓gI_M3, ↓gI_M4, ↓gI_M5, ↓gI_M6, ↓gI_M13, ↓gI_M22, ↓gI_M23, ↓gI_M24, ↓gI_M25, ↓gI_M27, ↓gI_M28, ↓gI_M29, ↓gI_M30, ↓gI_M31, ↓gI_M32, ↓gI_M33, ↓gI_M34, ↓gI_M35, ↓gI_M40, ↓gI_M41, ↓gI_M42, ↓gI_M43, ↓pV_M1, ↓pV_M2, ↓pV_M3, ↓pV_M4, ↓pV_M5, ↓pV_M6, ↓pV_M13, ↓pV_M22, ↓pV_M23, ↓pV_M24, ↓pV_M25, ↓pV_M27, ↓pV_M28, ↓pV_M29, ↓pV_M30, ↓pV_M31, ↓pV_M32, ↓pV_M33, ↓pV_M34, ↓pV_M35, ↓pV_M40, ↓pV_M41, ↓pV_M42, ↓pV_M43, ↓gR_M0, ↓gR_M7, ↓gR_M8, ↓gR_M9, ↓gR_M10, ↓gR_M11, ↓gR_M12, ↓gR_M14, ↓gR_M15, ↓gR_M16, ↓gR_M17, ↓gR_M18, ↓gR_M19, ↓gR_M20, ↓gR_M21, ↓gR_M36, ↓gR_M37, ↓gR_M38, ↓gR_M39, ↓rd_M1, ↓rd_M2, ↓rd_M3, ↓rd_M4, ↓rd_M5, ↓rd_M6, ↓rd_M7, ↓rd_M8, ↓rd_M9, ↓rd_M10, ↓rd_M11, ↓rd_M12, ↓rd_M13, ↓rd_M14, ↓rd_M15, ↓rd_M16, ↓rd_M17, ↓rd_M18, ↓rd_M19, ↓wr_M1, ↓wr_M2, ↓wr_M3, ↓wr_M4, ↓wr_M5, ↓wr_M6, ↓wr_M7, ↓wr_M8, ↓wr_M9, ↓wr_M10, ↓wr_M11, ↓wr_M12, ↓wr_M13, ↓wr_M14, ↓wr_M15, ↓wr_M16, ↓wr_M17, ↓wr_M18, ↓wr_M19, pL_H, pV_M1, pV_M2, pV_M3, pV_M4, pV_M5, pV_M6, pV_M13, pV_M22, pV_M23, pV_M24, pV_M25, pV_M27, pV_M28, pV_M29, pV_M30, pV_M31, pV_M32, pV_M33, pV_M34, pV_M35, pV_M40, pV_M41, pV_M42, pV_M43, rd_M1, rd_M2, rd_M3, rd_M4, rd_M5, rd_M6, rd_M7, rd_M8, rd_M9, rd_M10, rd_M11, rd_M12, rd_M13, rd_M14, rd_M15, rd_M16, rd_M17, rd_M18, rd_M19, wr_M1, wr_M2, wr_M3, wr_M4, wr_M5, wr_M6, wr_M7, wr_M8, wr_M9, wr_M10, wr_M11, wr_M12, wr_M13, wr_M14, wr_M15, wr_M16, wr_M17, wr_M18, wr_M19, J_l, J_neg, J_add, J_sub, J_mul, J_lt, J_le, J_eq, J_div2, J_rem2, J_shl1, J_orp, J_or, J_and, J_shr, J_ushr, J_max, J_min, J_abs, J_b0, ↓b0_ite, ↓b0_ite2, b0_ite, bI_r, bV_r, b01_ite, ite_true, ite_false, rZ_b, K_l, J_long, M_in]
      exact nx (-2) rfl
  · rw [if_neg hc]
    unfold qM_empties_34
    simp (disch := omega) only [↓isO_M, ↓gL_H, ↓pL_H, ↓gI_M1, ↓gI_M2, ↓gI_M3, ↓gI_M4, ↓gI_M5, ↓gI_M6, ↓gI_M13, ↓gI_M22, ↓gI_M23, ↓gI_M24, ↓gI_M25, ↓gI_M27, ↓gI_M28, ↓gI_M29, ↓gI_M30, ↓gI_M31, ↓gI_M32, ↓gI_M33, ↓gI_M34, ↓gI_M35, ↓gI_M40, ↓gI_M41, ↓gI_M42, ↓gI_M43, ↓pV_M1, ↓pV_M2, ↓pV_M3, ↓pV_M4, ↓pV_M5, ↓pV_M6, ↓pV_M13, ↓pV_M22, ↓pV_M23, ↓pV_M24, ↓pV_M25, ↓pV_M27, ↓pV_M28, ↓pV_M29, ↓pV_M30, ↓pV_M31, ↓pV_M32, ↓pV_M33, ↓pV_M34, ↓pV_M35, ↓pV_M40, ↓pV_M41, ↓pV_M42, ↓pV_M43, ↓gR_M0, ↓gR_M7, ↓gR_M8, ↓gR_M9, ↓gR_M10, ↓gR_M11, ↓gR_M12, ↓gR_M14, ↓gR_M15, ↓gR_M16, ↓gR_M17, ↓gR_M18, ↓gR_M19, ↓gR_M20, ↓gR_M21, ↓gR_M36, ↓gR_M37, ↓gR_M38, ↓gR_M39, ↓rd_M1, ↓rd_M2, ↓rd_M3, ↓rd_M4, ↓rd_M5, ↓rd_M6, ↓rd_M7, ↓rd_M8, ↓rd_M9, ↓rd_M10, ↓rd_M11, ↓rd_M12, ↓rd_M13, ↓rd_M14, ↓rd_M15, ↓rd_M16, ↓rd_M17, ↓rd_M18, ↓rd_M19, ↓wr_M1, ↓wr_M2, ↓wr_M3, ↓wr_M4, ↓wr_M5, ↓wr_M6, ↓wr_M7, ↓wr_M8, ↓wr_M9, ↓wr_M10, ↓wr_M11, ↓wr_M12, ↓wr_M13, ↓wr_M14, ↓wr_M15, ↓wr_M16, ↓wr_M17, ↓wr_M18, ↓wr_M19, pL_H, pV_M1, pV_M2, pV_M3, pV_M4, pV_M5, pV_M6, pV_M13, pV_M22, pV_M23, pV_M24, pV_M25, pV_M27, pV_M28, pV_M29, pV_M30, pV_M31, pV_M32, pV_M33, pV_M34, pV_M35, pV_M40, pV_M41, pV_M42, pV_M43, rd_M1, rd_M2, rd_M3, rd_M4, rd_M5, rd_M6, rd_M7, rd_M8, rd_M9, rd_M10, rd_M11, rd_M12, rd_M13, rd_M14, rd_M15, rd_M16, rd_M17, rd_M18, rd_M19, wr_M1, wr_M2, wr_M3, wr_M4, wr_M5, wr_M6, wr_M7, wr_M8, wr_M9, wr_M10, wr_M11, wr_M12, wr_M13, wr_M14, wr_M15, wr_M16, wr_M17, wr_M18, wr_M19, J_l, J_neg, J_add, J_sub, J_mul, J_lt, J_le, J_eq, J_div2, J_rem2, J_shl1, J_orp, J_or, J_and, J_shr, J_ushr, J_max, J_min, J_abs, J_b0, ↓b0_ite, ↓b0_ite2, b0_ite, bI_r, bV_r, b01_ite, ite_true, ite_false, rZ_b, K_l, J_long, M_in, rs_same, rs_ne, rs_rs, ru_same, ru_ne, ne_eq, i2 7 (by decide), i2 0 (by decide)]
    have e : i = 1784 := by omega
    rw [e] at i3
    exact ⟨m1, rfl, i2, i3⟩
theorem M_load105 (hn : 0 ≤ n ∧ n ≤ 8) (h6 : m 0 6 = n) : ∃ m', qM_load_105 LF y (J 0) (hi y TM g w m) = rI (J n) (hi y TM g w m') ∧ (∀ o, o ≠ 3 → m' o = m o) ∧ ∀ j, m' 3 j = if 0 ≤ j ∧ j < 23 * n then m 17 j else m 3 j := by
  refine loopI (S := Int × CT) (fun N p => qM_load_105 N y (J p.1) (hi y TM g w p.2)) (fun X => ∃ m', X = rI (J n) (hi y TM g w m') ∧ (∀ o, o ≠ 3 → m' o = m o) ∧ ∀ j, m' 3 j = if 0 ≤ j ∧ j < 23 * n then m 17 j else m 3 j) (fun p => (0 ≤ p.1 ∧ p.1 ≤ 23 * n) ∧ (∀ o, o ≠ 3 → p.2 o = m o) ∧ ∀ j, p.2 3 j = if 0 ≤ j ∧ j < p.1 then m 17 j else m 3 j) (fun p => 23 * n - p.1) (by intro p hp; omega) (fun N p hp ih => ?_) (0, m) ⟨⟨Int.le_refl 0, by show 0 ≤ 23 * n; omega⟩, fun o _ => rfl, fun j => (if_neg (by show ¬(0 ≤ j ∧ j < 0); omega)).symm⟩ (by show 23 * n - 0 < 20000; omega)
  obtain ⟨i, m1⟩ := p
  change (0 ≤ i ∧ i ≤ 23 * n) ∧ (∀ o, o ≠ 3 → m1 o = m o) ∧ ∀ j, m1 3 j = if 0 ≤ j ∧ j < i then m 17 j else m 3 j at hp
  obtain ⟨i1, i2, i3⟩ := hp
  have n6 : m1 0 6 = n := by rw [i2 0 (by decide)]; exact h6
  show ∃ m', qM_load_105_b (qM_load_105 N) y (J i) (hi y TM g w m1) = _ ∧ _
  unfold qM_load_105_b
  simp (disch := omega) only [↓isO_M, ↓gL_H, ↓pL_H, ↓gI_M1, ↓gI_M2, ↓gI_M3, ↓gI_M4, ↓gI_M5, ↓gI_M6, ↓gI_M13, ↓gI_M22, ↓gI_M23, ↓gI_M24, ↓gI_M25, ↓gI_M27, ↓gI_M28, ↓gI_M29, ↓gI_M30, ↓gI_M31, ↓gI_M32, ↓gI_M33, ↓gI_M34, ↓gI_M35, ↓gI_M40, ↓gI_M41, ↓gI_M42, ↓gI_M43, ↓pV_M1, ↓pV_M2, ↓pV_M3, ↓pV_M4, ↓pV_M5, ↓pV_M6, ↓pV_M13, ↓pV_M22, ↓pV_M23, ↓pV_M24, ↓pV_M25, ↓pV_M27, ↓pV_M28, ↓pV_M29, ↓pV_M30, ↓pV_M31, ↓pV_M32, ↓pV_M33, ↓pV_M34, ↓pV_M35, ↓pV_M40, ↓pV_M41, ↓pV_M42, ↓pV_M43, ↓gR_M0, ↓gR_M7, ↓gR_M8, ↓gR_M9, ↓gR_M10, ↓gR_M11, ↓gR_M12, ↓gR_M14, ↓gR_M15, ↓gR_M16, ↓gR_M17, ↓gR_M18, ↓gR_M19, ↓gR_M20, ↓gR_M21, ↓gR_M36, ↓gR_M37, ↓gR_M38, ↓gR_M39, ↓rd_M1, ↓rd_M2, ↓rd_M3, ↓rd_M4, ↓rd_M5, ↓rd_M6, ↓rd_M7, ↓rd_M8, ↓rd_M9, ↓rd_M10, ↓rd_M11, ↓rd_M12, ↓rd_M13, ↓rd_M14, ↓rd_M15, ↓rd_M16, ↓rd_M17, ↓rd_M18, ↓rd_M19, ↓wr_M1, ↓wr_M2, ↓wr_M3, ↓wr_M4, ↓wr_M5, ↓wr_M6, ↓wr_M7, ↓wr_M8, ↓wr_M9, ↓wr_M10, ↓wr_M11, ↓wr_M12, ↓wr_M13, ↓wr_M14, ↓wr_M15, ↓wr_M16, ↓wr_M17, ↓wr_M18, ↓wr_M19, pL_H, pV_M1, pV_M2, pV_M3, pV_M4, pV_M5, pV_M6, pV_M13, pV_M22, pV_M23, pV_M24, pV_M25, pV_M27, pV_M28, pV_M29, pV_M30, pV_M31, pV_M32, pV_M33, pV_M34, pV_M35, pV_M40, pV_M41, pV_M42, pV_M43, rd_M1, rd_M2, rd_M3, rd_M4, rd_M5, rd_M6, rd_M7, rd_M8, rd_M9, rd_M10, rd_M11, rd_M12, rd_M13, rd_M14, rd_M15, rd_M16, rd_M17, rd_M18, rd_M19, wr_M1, wr_M2, wr_M3, wr_M4, wr_M5, wr_M6, wr_M7, wr_M8, wr_M9, wr_M10, wr_M11, wr_M12, wr_M13, wr_M14, wr_M15, wr_M16, wr_M17, wr_M18, wr_M19, J_l, J_neg, J_add, J_sub, J_mul, J_lt, J_le, J_eq, J_div2, J_rem2, J_shl1, J_orp, J_or, J_and, J_shr, J_ushr, J_max, J_min, J_abs, J_b0, ↓b0_ite, ↓b0_ite2, b0_ite, bI_r, bV_r, b01_ite, ite_true, ite_false, rZ_b, K_l, J_long, M_in, n6]
  by_cases hc : i < 23 * n
  · rw [if_pos hc]
    simp (disch := omega) only [↓isO_M, ↓gL_H, ↓pL_H, ↓gI_M1, ↓gI_M2, ↓gI_M3, ↓gI_M4, ↓gI_M5, ↓gI_M6, ↓gI_M13, ↓gI_M22, ↓gI_M23, ↓gI_M24, ↓gI_M25, ↓gI_M27, ↓gI_M28, ↓gI_M29, ↓gI_M30, ↓gI_M31, ↓gI_M32, ↓gI_M33, ↓gI_M34, ↓gI_M35, ↓gI_M40, ↓gI_M41, ↓gI_M42, ↓gI_M43, ↓pV_M1, ↓pV_M2, ↓pV_M3, ↓pV_M4, ↓pV_M5, ↓pV_M6, ↓pV_M13, ↓pV_M22, ↓pV_M23, ↓pV_M24, ↓pV_M25, ↓pV_M27, ↓pV_M28, ↓pV_M29, ↓pV_M30, ↓pV_M31, ↓pV_M32, ↓pV_M33, ↓pV_M34, ↓pV_M35, ↓pV_M40, ↓pV_M41, ↓pV_M42, ↓pV_M43, ↓gR_M0, ↓gR_M7, ↓gR_M8, ↓gR_M9, ↓gR_M10, ↓gR_M11, ↓gR_M12, ↓gR_M14, ↓gR_M15, ↓gR_M16, ↓gR_M17, ↓gR_M18, ↓gR_M19, ↓gR_M20, ↓gR_M21, ↓gR_M36, ↓gR_M37, ↓gR_M38, ↓gR_M39, ↓rd_M1, ↓rd_M2, ↓rd_M3, ↓rd_M4, ↓rd_M5, ↓rd_M6, ↓rd_M7, ↓rd_M8, ↓rd_M9, ↓rd_M10, ↓rd_M11, ↓rd_M12, ↓rd_M13, ↓rd_M14, ↓rd_M15, ↓rd_M16, ↓rd_M17, ↓rd_M18, ↓rd_M19, ↓wr_M1, ↓wr_M2, ↓wr_M3, ↓wr_M4, ↓wr_M5, ↓wr_M6, ↓wr_M7, ↓wr_M8, ↓wr_M9, ↓wr_M10, ↓wr_M11, ↓wr_M12, ↓wr_M13, ↓wr_M14, ↓wr_M15, ↓wr_M16, ↓wr_M17, ↓wr_M18, ↓wr_M19, pL_H, pV_M1, pV_M2, pV_M3, pV_M4, pV_M5, pV_M6, pV_M13, pV_M22, pV_M23, pV_M24, pV_M25, pV_M27, pV_M28, pV_M29, pV_M30, pV_M31, pV_M32, pV_M33, pV_M34, pV_M35, pV_M40, pV_M41, pV_M42, pV_M43, rd_M1, rd_M2, rd_M3, rd_M4, rd_M5, rd_M6, rd_M7, rd_M8, rd_M9, rd_M10, rd_M11, rd_M12, rd_M13, rd_M14, rd_M15, rd_M16, rd_M17, rd_M18, rd_M19, wr_M1, wr_M2, wr_M3, wr_M4, wr_M5, wr_M6, wr_M7, wr_M8, wr_M9, wr_M10, wr_M11, wr_M12, wr_M13, wr_M14, wr_M15, wr_M16, wr_M17, wr_M18, wr_M19, J_l, J_neg, J_add, J_sub, J_mul, J_lt, J_le, J_eq, J_div2, J_rem2, J_shl1, J_orp, J_or, J_and, J_shr, J_ushr, J_max, J_min, J_abs, J_b0, ↓b0_ite, ↓b0_ite2, b0_ite, bI_r, bV_r, b01_ite, ite_true, ite_false, rZ_b, K_l, J_long, M_in, i2 17 (by decide)]
    refine ih (i + 1, rs m1 3 (ru (m1 3) i (m 17 i))) ⟨by show 0 ≤ i + 1 ∧ i + 1 ≤ 23 * n; omega, fun o ho => ?_, fun j => ?_⟩ (by show 23 * n - (i + 1) < 23 * n - i; omega)
    · show rs m1 3 (ru (m1 3) i (m 17 i)) o = m o
      rw [rs_ne ho]; exact i2 o ho
    · show rs m1 3 (ru (m1 3) i (m 17 i)) 3 j = if 0 ≤ j ∧ j < i + 1 then m 17 j else m 3 j
      rw [rs_same]
      by_cases e : j = i
      · rw [e, ru_same, if_pos (by omega)]
      · rw [ru_ne e, i3 j]
        by_cases q : 0 ≤ j ∧ j < i
        · rw [if_pos q, if_pos (by omega)]
        · rw [if_neg q, if_neg (by omega)]
  · rw [if_neg hc]
    unfold qM_load_134
    have e : i = 23 * n := by omega
    rw [e] at i3
    rw [gI_M6, n6]
    exact ⟨m1, rfl, i2, i3⟩
theorem M_load77 (hn : 0 ≤ n ∧ n ≤ 8) (h6 : m 0 6 = n) : ∃ m', qM_load_77 LF y (J 0) (hi y TM g w m) = rI (J n) (hi y TM g w m') ∧ (∀ o, o ≠ 3 → o ≠ 2 → m' o = m o) ∧ (∀ j, m' 3 j = if 0 ≤ j ∧ j < 23 * n then m 17 j else m 3 j) ∧ ∀ j, 0 ≤ j → j < n → m' 2 j = m 16 j := by
  refine loopI (S := Int × CT) (fun N p => qM_load_77 N y (J p.1) (hi y TM g w p.2)) (fun X => ∃ m', X = rI (J n) (hi y TM g w m') ∧ (∀ o, o ≠ 3 → o ≠ 2 → m' o = m o) ∧ (∀ j, m' 3 j = if 0 ≤ j ∧ j < 23 * n then m 17 j else m 3 j) ∧ ∀ j, 0 ≤ j → j < n → m' 2 j = m 16 j) (fun p => (0 ≤ p.1 ∧ p.1 ≤ n) ∧ (∀ o, o ≠ 2 → p.2 o = m o) ∧ ∀ j, 0 ≤ j → j < p.1 → p.2 2 j = m 16 j) (fun p => n - p.1) (by intro p hp; omega) (fun N p hp ih => ?_) (0, m) ⟨⟨Int.le_refl 0, hn.1⟩, fun o _ => rfl, fun j j0 j1 => by exact absurd j1 (by show ¬j < 0; omega)⟩ (by show n - 0 < 20000; omega)
  obtain ⟨i, m1⟩ := p
  change (0 ≤ i ∧ i ≤ n) ∧ (∀ o, o ≠ 2 → m1 o = m o) ∧ ∀ j, 0 ≤ j → j < i → m1 2 j = m 16 j at hp
  obtain ⟨i1, i2, i3⟩ := hp
  have n6 : m1 0 6 = n := by rw [i2 0 (by decide)]; exact h6
  show ∃ m', qM_load_77_b (qM_load_77 N) y (J i) (hi y TM g w m1) = _ ∧ _
  unfold qM_load_77_b
  simp (disch := omega) only [↓isO_M, ↓gL_H, ↓pL_H, ↓gI_M1, ↓gI_M2, ↓gI_M3, ↓gI_M4, ↓gI_M5, ↓gI_M6, ↓gI_M13, ↓gI_M22, ↓gI_M23, ↓gI_M24, ↓gI_M25, ↓gI_M27, ↓gI_M28, ↓gI_M29, ↓gI_M30, ↓gI_M31, ↓gI_M32, ↓gI_M33, ↓gI_M34, ↓gI_M35, ↓gI_M40, ↓gI_M41, ↓gI_M42, ↓gI_M43, ↓pV_M1, ↓pV_M2, ↓pV_M3, ↓pV_M4, ↓pV_M5, ↓pV_M6, ↓pV_M13, ↓pV_M22, ↓pV_M23, ↓pV_M24, ↓pV_M25, ↓pV_M27, ↓pV_M28, ↓pV_M29, ↓pV_M30, ↓pV_M31, ↓pV_M32, ↓pV_M33, ↓pV_M34, ↓pV_M35, ↓pV_M40, ↓pV_M41, ↓pV_M42, ↓pV_M43, ↓gR_M0, ↓gR_M7, ↓gR_M8, ↓gR_M9, ↓gR_M10, ↓gR_M11, ↓gR_M12, ↓gR_M14, ↓gR_M15, ↓gR_M16, ↓gR_M17, ↓gR_M18, ↓gR_M19, ↓gR_M20, ↓gR_M21, ↓gR_M36, ↓gR_M37, ↓gR_M38, ↓gR_M39, ↓rd_M1, ↓rd_M2, ↓rd_M3, ↓rd_M4, ↓rd_M5, ↓rd_M6, ↓rd_M7, ↓rd_M8, ↓rd_M9, ↓rd_M10, ↓rd_M11, ↓rd_M12, ↓rd_M13, ↓rd_M14, ↓rd_M15, ↓rd_M16, ↓rd_M17, ↓rd_M18, ↓rd_M19, ↓wr_M1, ↓wr_M2, ↓wr_M3, ↓wr_M4, ↓wr_M5, ↓wr_M6, ↓wr_M7, ↓wr_M8, ↓wr_M9, ↓wr_M10, ↓wr_M11, ↓wr_M12, ↓wr_M13, ↓wr_M14, ↓wr_M15, ↓wr_M16, ↓wr_M17, ↓wr_M18, ↓wr_M19, pL_H, pV_M1, pV_M2, pV_M3, pV_M4, pV_M5, pV_M6, pV_M13, pV_M22, pV_M23, pV_M24, pV_M25, pV_M27, pV_M28, pV_M29, pV_M30, pV_M31, pV_M32, pV_M33, pV_M34, pV_M35, pV_M40, pV_M41, pV_M42, pV_M43, rd_M1, rd_M2, rd_M3, rd_M4, rd_M5, rd_M6, rd_M7, rd_M8, rd_M9, rd_M10, rd_M11, rd_M12, rd_M13, rd_M14, rd_M15, rd_M16, rd_M17, rd_M18, rd_M19, wr_M1, wr_M2, wr_M3, wr_M4, wr_M5, wr_M6, wr_M7, wr_M8, wr_M9, wr_M10, wr_M11, wr_M12, wr_M13, wr_M14, wr_M15, wr_M16, wr_M17, wr_M18, wr_M19, J_l, J_neg, J_add, J_sub, J_mul, J_lt, J_le, J_eq, J_div2, J_rem2, J_shl1, J_orp, J_or, J_and, J_shr, J_ushr, J_max, J_min, J_abs, J_b0, ↓b0_ite, ↓b0_ite2, b0_ite, bI_r, bV_r, b01_ite, ite_true, ite_false, rZ_b, K_l, J_long, M_in, n6]
  by_cases hc : i < n
  · rw [if_pos hc]
    simp (disch := omega) only [↓isO_M, ↓gL_H, ↓pL_H, ↓gI_M1, ↓gI_M2, ↓gI_M3, ↓gI_M4, ↓gI_M5, ↓gI_M6, ↓gI_M13, ↓gI_M22, ↓gI_M23, ↓gI_M24, ↓gI_M25, ↓gI_M27, ↓gI_M28, ↓gI_M29, ↓gI_M30, ↓gI_M31, ↓gI_M32, ↓gI_M33, ↓gI_M34, ↓gI_M35, ↓gI_M40, ↓gI_M41, ↓gI_M42, ↓gI_M43, ↓pV_M1, ↓pV_M2, ↓pV_M3, ↓pV_M4, ↓pV_M5, ↓pV_M6, ↓pV_M13, ↓pV_M22, ↓pV_M23, ↓pV_M24, ↓pV_M25, ↓pV_M27, ↓pV_M28, ↓pV_M29, ↓pV_M30, ↓pV_M31, ↓pV_M32, ↓pV_M33, ↓pV_M34, ↓pV_M35, ↓pV_M40, ↓pV_M41, ↓pV_M42, ↓pV_M43, ↓gR_M0, ↓gR_M7, ↓gR_M8, ↓gR_M9, ↓gR_M10, ↓gR_M11, ↓gR_M12, ↓gR_M14, ↓gR_M15, ↓gR_M16, ↓gR_M17, ↓gR_M18, ↓gR_M19, ↓gR_M20, ↓gR_M21, ↓gR_M36, ↓gR_M37, ↓gR_M38, ↓gR_M39, ↓rd_M1, ↓rd_M2, ↓rd_M3, ↓rd_M4, ↓rd_M5, ↓rd_M6, ↓rd_M7, ↓rd_M8, ↓rd_M9, ↓rd_M10, ↓rd_M11, ↓rd_M12, ↓rd_M13, ↓rd_M14, ↓rd_M15, ↓rd_M16, ↓rd_M17, ↓rd_M18, ↓rd_M19, ↓wr_M1, ↓wr_M2, ↓wr_M3, ↓wr_M4, ↓wr_M5, ↓wr_M6, ↓wr_M7, ↓wr_M8, ↓wr_M9, ↓wr_M10, ↓wr_M11, ↓wr_M12, ↓wr_M13, ↓wr_M14, ↓wr_M15, ↓wr_M16, ↓wr_M17, ↓wr_M18, ↓wr_M19, pL_H, pV_M1, pV_M2, pV_M3, pV_M4, pV_M5, pV_M6, pV_M13, pV_M22, pV_M23, pV_M24, pV_M25, pV_M27, pV_M28, pV_M29, pV_M30, pV_M31, pV_M32, pV_M33, pV_M34, pV_M35, pV_M40, pV_M41, pV_M42, pV_M43, rd_M1, rd_M2, rd_M3, rd_M4, rd_M5, rd_M6, rd_M7, rd_M8, rd_M9, rd_M10, rd_M11, rd_M12, rd_M13, rd_M14, rd_M15, rd_M16, rd_M17, rd_M18, rd_M19, wr_M1, wr_M2, wr_M3, wr_M4, wr_M5, wr_M6, wr_M7, wr_M8, wr_M9, wr_M10, wr_M11, wr_M12, wr_M13, wr_M14, wr_M15, wr_M16, wr_M17, wr_M18, wr_M19, J_l, J_neg, J_add, J_sub, J_mul, J_lt, J_le, J_eq, J_div2, J_rem2, J_shl1, J_orp, J_or, J_and, J_shr, J_ushr, J_max, J_min, J_abs, J_b0, ↓b0_ite, ↓b0_ite2, b0_ite, bI_r, bV_r, b01_ite, ite_true, ite_false, rZ_b, K_l, J_long, M_in, i2 16 (by decide)]
    refine ih (i + 1, rs m1 2 (ru (m1 2) i (m 16 i))) ⟨by show 0 ≤ i + 1 ∧ i + 1 ≤ n; omega, fun o ho => ?_, fun j j0 j1 => ?_⟩ (by show n - (i + 1) < n - i; omega)
    · show rs m1 2 (ru (m1 2) i (m 16 i)) o = m o
      rw [rs_ne ho]; exact i2 o ho
    · show rs m1 2 (ru (m1 2) i (m 16 i)) 2 j = m 16 j
      change j < i + 1 at j1
      rw [rs_same]
      by_cases e : j = i
      · rw [e, ru_same]
      · rw [ru_ne e]; exact i3 j j0 (by omega)
  · rw [if_neg hc]
    obtain ⟨m', e1, e2, e3⟩ := M_load105 (y := y) (g := g) (w := w) hn n6
    have e : i = n := by omega
    rw [e] at i3
    refine ⟨m', e1, fun o o1 o2 => by rw [e2 o o1, i2 o o2], fun j => ?_, fun j j0 j1 => by rw [e2 2 (by decide)]; exact i3 j j0 j1⟩
    rw [e3 j, i2 17 (by decide), i2 3 (by decide)]
theorem C_load67 : qD_load_67 LF z (J 0) (hi z TD g w s) = qD_load_85 z (hi z TD g w (rs s 65 (ru (ru (s 65) 0 0) 1 0))) := by
  have key : ∀ N : Nat, qD_load_67 (N + 3) z (J 0) (hi z TD g w s) = qD_load_85 z (hi z TD g w (rs s 65 (ru (ru (s 65) 0 0) 1 0))) := fun N => by
    show qD_load_67_b (qD_load_67 (N + 2)) z (J 0) (hi z TD g w s) = _
    unfold qD_load_67_b
    simp (disch := omega) only [↓gR_D0, ↓gR_D1, ↓gR_D2, ↓gR_D3, ↓gR_D4, ↓gR_D5, ↓gR_D6, ↓gR_D7, ↓gR_D8, ↓gR_D9, ↓gR_D10, ↓gI_D11, ↓pV_D11, ↓isO_D, ↓gI_T0, ↓pV_T0, ↓gR_T1, ↓isO_T, ↓rd_T2, ↓wr_T2, ↓gI_U0, ↓pV_U0, ↓gR_U1, ↓isO_U, ↓rd_U2, ↓wr_U2, ↓gI_Ps0, ↓pV_Ps0, ↓gI_Ps1, ↓pV_Ps1, ↓gI_Ps2, ↓pV_Ps2, ↓gI_Ps3, ↓pV_Ps3, ↓gI_Ps4, ↓pV_Ps4, ↓isO_Ps, ↓gI_N0, ↓pV_N0, ↓gI_N1, ↓pV_N1, ↓gI_N2, ↓pV_N2, ↓gI_N3, ↓pV_N3, ↓gR_N4, ↓gR_N5, ↓isO_N, ↓rd_NL, ↓gI_NB0, ↓pV_NB0, ↓gR_NB1, ↓gR_NB2, ↓isO_NB, ↓rd_NC, ↓wr_NC, ↓ln_NC, ↓rd_NP, ↓wr_NP, ↓ln_NP, ↓gI_V0, ↓pV_V0, ↓gI_V1, ↓pV_V1, ↓gI_V2, ↓pV_V2, ↓gI_V3, ↓pV_V3, ↓gR_V4, ↓gR_V5, ↓isO_V, ↓rd_VL, ↓gI_VB0, ↓pV_VB0, ↓gR_VB1, ↓gR_VB2, ↓isO_VB, ↓rd_VC, ↓wr_VC, ↓ln_VC, ↓rd_VP, ↓wr_VP, ↓ln_VP, ↓rd_SL, ↓rd_KP, ↓wr_KP, ↓gI_H0, ↓pV_H0, ↓gI_H1, ↓pV_H1, ↓gR_H2, ↓isO_H, ↓rd_HP, ↓gI_B0, ↓pV_B0, ↓gI_B1, ↓pV_B1, ↓gR_B2, ↓gR_B3, ↓gR_B4, ↓gR_B5, ↓gR_B6, ↓gR_B7, ↓gR_B8, ↓isO_B, ↓rd_B301, ↓wr_B301, ↓ln_B301, ↓rd_B302, ↓wr_B302, ↓ln_B302, ↓rd_B303, ↓wr_B303, ↓ln_B303, ↓rd_B304, ↓wr_B304, ↓ln_B304, ↓rd_B305, ↓wr_B305, ↓ln_B305, ↓rd_B306, ↓wr_B306, ↓ln_B306, ↓rd_B307, ↓wr_B307, ↓ln_B307, ↓gR_Tv, ↓isO_Tv, ↓rd_Tv9, ↓wr_Tv9, ↓ln_Tv9, pV_D11, pV_T0, rd_T2, wr_T2, pV_U0, rd_U2, wr_U2, pV_Ps0, pV_Ps1, pV_Ps2, pV_Ps3, pV_Ps4, pV_N0, pV_N1, pV_N2, pV_N3, rd_NL, pV_NB0, rd_NC, wr_NC, rd_NP, wr_NP, pV_V0, pV_V1, pV_V2, pV_V3, rd_VL, pV_VB0, rd_VC, wr_VC, rd_VP, wr_VP, rd_SL, rd_KP, wr_KP, pV_H0, pV_H1, rd_HP, pV_B0, pV_B1, rd_B301, wr_B301, rd_B302, wr_B302, rd_B303, wr_B303, rd_B304, wr_B304, rd_B305, wr_B305, rd_B306, wr_B306, rd_B307, wr_B307, rd_Tv9, wr_Tv9, J_l, J_neg, J_add, J_sub, J_mul, J_lt, J_le, J_eq, J_div2, J_rem2, J_shl1, J_orp, J_or, J_and, J_shr, J_ushr, J_max, J_min, J_abs, J_b0, ↓b0_ite, ↓b0_ite2, b0_ite, bI_r, bV_r, b01_ite, ite_true, ite_false, rZ_b, K_l, J_long, M_in]
    rw [if_pos (show (0 : Int) < 2 by omega)]
    show qD_load_67_b (qD_load_67 (N + 1)) z (J 1) _ = _
    unfold qD_load_67_b
    simp (disch := omega) only [↓gR_D0, ↓gR_D1, ↓gR_D2, ↓gR_D3, ↓gR_D4, ↓gR_D5, ↓gR_D6, ↓gR_D7, ↓gR_D8, ↓gR_D9, ↓gR_D10, ↓gI_D11, ↓pV_D11, ↓isO_D, ↓gI_T0, ↓pV_T0, ↓gR_T1, ↓isO_T, ↓rd_T2, ↓wr_T2, ↓gI_U0, ↓pV_U0, ↓gR_U1, ↓isO_U, ↓rd_U2, ↓wr_U2, ↓gI_Ps0, ↓pV_Ps0, ↓gI_Ps1, ↓pV_Ps1, ↓gI_Ps2, ↓pV_Ps2, ↓gI_Ps3, ↓pV_Ps3, ↓gI_Ps4, ↓pV_Ps4, ↓isO_Ps, ↓gI_N0, ↓pV_N0, ↓gI_N1, ↓pV_N1, ↓gI_N2, ↓pV_N2, ↓gI_N3, ↓pV_N3, ↓gR_N4, ↓gR_N5, ↓isO_N, ↓rd_NL, ↓gI_NB0, ↓pV_NB0, ↓gR_NB1, ↓gR_NB2, ↓isO_NB, ↓rd_NC, ↓wr_NC, ↓ln_NC, ↓rd_NP, ↓wr_NP, ↓ln_NP, ↓gI_V0, ↓pV_V0, ↓gI_V1, ↓pV_V1, ↓gI_V2, ↓pV_V2, ↓gI_V3, ↓pV_V3, ↓gR_V4, ↓gR_V5, ↓isO_V, ↓rd_VL, ↓gI_VB0, ↓pV_VB0, ↓gR_VB1, ↓gR_VB2, ↓isO_VB, ↓rd_VC, ↓wr_VC, ↓ln_VC, ↓rd_VP, ↓wr_VP, ↓ln_VP, ↓rd_SL, ↓rd_KP, ↓wr_KP, ↓gI_H0, ↓pV_H0, ↓gI_H1, ↓pV_H1, ↓gR_H2, ↓isO_H, ↓rd_HP, ↓gI_B0, ↓pV_B0, ↓gI_B1, ↓pV_B1, ↓gR_B2, ↓gR_B3, ↓gR_B4, ↓gR_B5, ↓gR_B6, ↓gR_B7, ↓gR_B8, ↓isO_B, ↓rd_B301, ↓wr_B301, ↓ln_B301, ↓rd_B302, ↓wr_B302, ↓ln_B302, ↓rd_B303, ↓wr_B303, ↓ln_B303, ↓rd_B304, ↓wr_B304, ↓ln_B304, ↓rd_B305, ↓wr_B305, ↓ln_B305, ↓rd_B306, ↓wr_B306, ↓ln_B306, ↓rd_B307, ↓wr_B307, ↓ln_B307, ↓gR_Tv, ↓isO_Tv, ↓rd_Tv9, ↓wr_Tv9, ↓ln_Tv9, pV_D11, pV_T0, rd_T2, wr_T2, pV_U0, rd_U2, wr_U2, pV_Ps0, pV_Ps1, pV_Ps2, pV_Ps3, pV_Ps4, pV_N0, pV_N1, pV_N2, pV_N3, rd_NL, pV_NB0, rd_NC, wr_NC, rd_NP, wr_NP, pV_V0, pV_V1, pV_V2, pV_V3, rd_VL, pV_VB0, rd_VC, wr_VC, rd_VP, wr_VP, rd_SL, rd_KP, wr_KP, pV_H0, pV_H1, rd_HP, pV_B0, pV_B1, rd_B301, wr_B301, rd_B302, wr_B302, rd_B303, wr_B303, rd_B304, wr_B304, rd_B305, wr_B305, rd_B306, wr_B306, rd_B307, wr_B307, rd_Tv9, wr_Tv9, J_l, J_neg, J_add, J_sub, J_mul, J_lt, J_le, J_eq, J_div2, J_rem2, J_shl1, J_orp, J_or, J_and, J_shr, J_ushr, J_max, J_min, J_abs, J_b0, ↓b0_ite, ↓b0_ite2, b0_ite, bI_r, bV_r, b01_ite, ite_true, ite_false, rZ_b, K_l, J_long, M_in, rs_same, rs_ne, rs_rs, ru_same, ru_ne, ne_eq]
    rw [if_pos (show (1 : Int) < 2 by omega)]
    show qD_load_67_b (qD_load_67 N) z (J 2) _ = _
    unfold qD_load_67_b
    simp (disch := omega) only [↓gR_D0, ↓gR_D1, ↓gR_D2, ↓gR_D3, ↓gR_D4, ↓gR_D5, ↓gR_D6, ↓gR_D7, ↓gR_D8, ↓gR_D9, ↓gR_D10, ↓gI_D11, ↓pV_D11, ↓isO_D, ↓gI_T0, ↓pV_T0, ↓gR_T1, ↓isO_T, ↓rd_T2, ↓wr_T2, ↓gI_U0, ↓pV_U0, ↓gR_U1, ↓isO_U, ↓rd_U2, ↓wr_U2, ↓gI_Ps0, ↓pV_Ps0, ↓gI_Ps1, ↓pV_Ps1, ↓gI_Ps2, ↓pV_Ps2, ↓gI_Ps3, ↓pV_Ps3, ↓gI_Ps4, ↓pV_Ps4, ↓isO_Ps, ↓gI_N0, ↓pV_N0, ↓gI_N1, ↓pV_N1, ↓gI_N2, ↓pV_N2, ↓gI_N3, ↓pV_N3, ↓gR_N4, ↓gR_N5, ↓isO_N, ↓rd_NL, ↓gI_NB0, ↓pV_NB0, ↓gR_NB1, ↓gR_NB2, ↓isO_NB, ↓rd_NC, ↓wr_NC, ↓ln_NC, ↓rd_NP, ↓wr_NP, ↓ln_NP, ↓gI_V0, ↓pV_V0, ↓gI_V1, ↓pV_V1, ↓gI_V2, ↓pV_V2, ↓gI_V3, ↓pV_V3, ↓gR_V4, ↓gR_V5, ↓isO_V, ↓rd_VL, ↓gI_VB0, ↓pV_VB0, ↓gR_VB1, ↓gR_VB2, ↓isO_VB, ↓rd_VC, ↓wr_VC, ↓ln_VC, ↓rd_VP, ↓wr_VP, ↓ln_VP, ↓rd_SL, ↓rd_KP, ↓wr_KP, ↓gI_H0, ↓pV_H0, ↓gI_H1, ↓pV_H1, ↓gR_H2, ↓isO_H, ↓rd_HP, ↓gI_B0, ↓pV_B0, ↓gI_B1, ↓pV_B1, ↓gR_B2, ↓gR_B3, ↓gR_B4, ↓gR_B5, ↓gR_B6, ↓gR_B7, ↓gR_B8, ↓isO_B, ↓rd_B301, ↓wr_B301, ↓ln_B301, ↓rd_B302, ↓wr_B302, ↓ln_B302, ↓rd_B303, ↓wr_B303, ↓ln_B303, ↓rd_B304, ↓wr_B304, ↓ln_B304, ↓rd_B305, ↓wr_B305, ↓ln_B305, ↓rd_B306, ↓wr_B306, ↓ln_B306, ↓rd_B307, ↓wr_B307, ↓ln_B307, ↓gR_Tv, ↓isO_Tv, ↓rd_Tv9, ↓wr_Tv9, ↓ln_Tv9, pV_D11, pV_T0, rd_T2, wr_T2, pV_U0, rd_U2, wr_U2, pV_Ps0, pV_Ps1, pV_Ps2, pV_Ps3, pV_Ps4, pV_N0, pV_N1, pV_N2, pV_N3, rd_NL, pV_NB0, rd_NC, wr_NC, rd_NP, wr_NP, pV_V0, pV_V1, pV_V2, pV_V3, rd_VL, pV_VB0, rd_VC, wr_VC, rd_VP, wr_VP, rd_SL, rd_KP, wr_KP, pV_H0, pV_H1, rd_HP, pV_B0, pV_B1, rd_B301, wr_B301, rd_B302, wr_B302, rd_B303, wr_B303, rd_B304, wr_B304, rd_B305, wr_B305, rd_B306, wr_B306, rd_B307, wr_B307, rd_Tv9, wr_Tv9, J_l, J_neg, J_add, J_sub, J_mul, J_lt, J_le, J_eq, J_div2, J_rem2, J_shl1, J_orp, J_or, J_and, J_shr, J_ushr, J_max, J_min, J_abs, J_b0, ↓b0_ite, ↓b0_ite2, b0_ite, bI_r, bV_r, b01_ite, ite_true, ite_false, rZ_b, K_l, J_long, M_in, rs_same, rs_ne, rs_rs, ru_same, ru_ne, ne_eq]
    rw [if_neg (show ¬(2 : Int) < 2 by omega)]
  exact key 19997
end LD
