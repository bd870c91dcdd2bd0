/-! calls that ask of stations -/
section SQ
variable {z y : Nat} {g g' : XH} {w w' : Int64} {s s' s0 s1 s2 m m' m0 m1 m2 : CT} {G W W' V W1 row row' r0 nm lo lg sn f : Int → Int} {wd hg mt c i j l n p v t k x xx yy N q o to : Int} {a b : Nat} {h : XH}
variable {k r : Int}
/-- the way by which a step is come to -/
noncomputable def wS (W : Int → Int) (l k : Int) : Int := Dw W l (if k = 0 then 0 else k - 1)
theorem wayM_w {u : Int} (h : 0 ≤ u ∧ u < 8) : wayM (dxI u) (dyI u) = u := by
  have : u = 0 ∨ u = 1 ∨ u = 2 ∨ u = 3 ∨ u = 4 ∨ u = 5 ∨ u = 6 ∨ u = 7 := by omega
  rcases this with rfl | rfl | rfl | rfl | rfl | rfl | rfl | rfl <;> decide
theorem L_wayToStep (hg : GOk g z) (ha : isLn TD a) (hv : LV s a W l) (hG : LG W l) (hk : 0 ≤ k ∧ k ≤ len W l) : qLn_wayToStep (z + a) (J k) (hi z TD g w s) = rI (J (wS W l k)) (hi z TD g w s) := by
  have hb := hG.1
  have b1 := hb.1
  have x1 := hv.1
  have lb := len_bd hb
  have e0 := L_stepsOfRun (z := z) (g := g) (w := w) ha hv hb (show 0 ≤ (0 : Int) ∧ 0 < cN W l - 1 by omega)
  have p1 : pr W l (0 + 1) = pr W l 0 + sp W l 0 := pr_s (by omega)
  rw [pr_0, Int.zero_add, Int.zero_add] at p1
  have key := loopI (S := Int) (fun N r => qLn_wayToStep_8 N (z + a) (J k) (J r) (J (pr W l (r + 1))) (hi z TD g w s)) (fun X => X = rI (J (wS W l k)) (hi z TD g w s)) (fun r => (0 ≤ r ∧ r ≤ cN W l - 2) ∧ (r = 0 ∨ pr W l r < k)) (fun r => cN W l - 2 - r) (by intro p hp; omega) (fun N r hr ih => by
    obtain ⟨⟨r1, r2⟩, r3⟩ := hr
    have p2 := pr_bd hb (r := r) r1 (by omega)
    have p3 := pr_bd hb (r := r + 1) (by omega) (by omega)
    have fin : (k ≤ pr W l (r + 1) ∨ r = cN W l - 2) → qLn_wayToStep_37 (z + a) (J r) (hi z TD g w s) = rI (J (wS W l k)) (hi z TD g w s) := fun hf => by
      have e : rr W l (if k = 0 then 0 else k - 1) = r := by
        by_cases k0 : k = 0
        · rw [if_pos k0]
          have : r = 0 := by omega
          rw [this]
          refine rr_run hG (by omega) (by omega) (by rw [pr_0]; omega) (Or.inl ?_)
          have := sp_pos hG (r := 0) (by omega) (by omega)
          rw [show (0 : Int) + 1 = 1 from rfl]
          omega
        · rw [if_neg k0]
          refine rr_run hG r1 r2 ?_ ?_
          · rcases r3 with e | e
            · rw [e, pr_0]; omega
            · omega
          · omega
      unfold qLn_wayToStep_37 wS Dw
      rw [e]
      simp (disch := first | assumption | omega) only [↓isO_L, ↓gI_L0, ↓pV_L0, ↓gI_L1, ↓pV_L1, ↓gI_L2, ↓pV_L2, ↓gI_L3, ↓pV_L3, ↓gR_L4, ↓rd_L4, ↓wr_L4, ↓gR_L5, ↓rd_L5, ↓wr_L5, pV_L0, pV_L1, pV_L2, pV_L3, rd_L4, wr_L4, rd_L5, wr_L5, J_l, J_neg, J_add, J_sub, J_mul, J_lt, J_le, J_eq, J_div2, J_rem2, J_shl1, J_orp, J_or, J_and, J_shr, J_ushr, J_max, J_min, J_abs, J_b0, ↓b0_ite, ↓b0_ite2, b0_ite, bI_r, bV_r, b01_ite, ite_true, ite_false, rZ_b, K_l, J_long, M_in, L_wayOfRun hg ha hv hb]
    show qLn_wayToStep_8_b (qLn_wayToStep_8 N) (z + a) (J k) (J r) (J (pr W l (r + 1))) (hi z TD g w s) = _
    unfold qLn_wayToStep_8_b
    simp (disch := first | assumption | omega) only [↓isO_L, ↓gI_L0, ↓pV_L0, ↓gI_L1, ↓pV_L1, ↓gI_L2, ↓pV_L2, ↓gI_L3, ↓pV_L3, ↓gR_L4, ↓rd_L4, ↓wr_L4, ↓gR_L5, ↓rd_L5, ↓wr_L5, pV_L0, pV_L1, pV_L2, pV_L3, rd_L4, wr_L4, rd_L5, wr_L5, J_l, J_neg, J_add, J_sub, J_mul, J_lt, J_le, J_eq, J_div2, J_rem2, J_shl1, J_orp, J_or, J_and, J_shr, J_ushr, J_max, J_min, J_abs, J_b0, ↓b0_ite, ↓b0_ite2, b0_ite, bI_r, bV_r, b01_ite, ite_true, ite_false, rZ_b, K_l, J_long, M_in, x1]
    by_cases h1 : pr W l (r + 1) < k
    · rw [if_pos h1]
      by_cases h2 : r < cN W l - 2
      · rw [if_pos h2]
        have := ih (r + 1) ⟨by omega, Or.inr h1⟩ (by omega)
        rw [pr_s (r := r + 1) (by omega)] at this
        simp (disch := first | assumption | omega) only [↓isO_L, ↓gI_L0, ↓pV_L0, ↓gI_L1, ↓pV_L1, ↓gI_L2, ↓pV_L2, ↓gI_L3, ↓pV_L3, ↓gR_L4, ↓rd_L4, ↓wr_L4, ↓gR_L5, ↓rd_L5, ↓wr_L5, pV_L0, pV_L1, pV_L2, pV_L3, rd_L4, wr_L4, rd_L5, wr_L5, J_l, J_neg, J_add, J_sub, J_mul, J_lt, J_le, J_eq, J_div2, J_rem2, J_shl1, J_orp, J_or, J_and, J_shr, J_ushr, J_max, J_min, J_abs, J_b0, ↓b0_ite, ↓b0_ite2, b0_ite, bI_r, bV_r, b01_ite, ite_true, ite_false, rZ_b, K_l, J_long, M_in, L_stepsOfRun ha hv hb]
        exact this
      · rw [if_neg h2]
        exact fin (by omega)
    · rw [if_neg h1]
      exact fin (by omega)) 0 ⟨by omega, Or.inl rfl⟩ (by omega)
  rw [show (0 : Int) + 1 = 1 from rfl, p1] at key
  unfold qLn_wayToStep
  simp (disch := first | assumption | omega) only [↓isO_L, ↓gI_L0, ↓pV_L0, ↓gI_L1, ↓pV_L1, ↓gI_L2, ↓pV_L2, ↓gI_L3, ↓pV_L3, ↓gR_L4, ↓rd_L4, ↓wr_L4, ↓gR_L5, ↓rd_L5, ↓wr_L5, pV_L0, pV_L1, pV_L2, pV_L3, rd_L4, wr_L4, rd_L5, wr_L5, J_l, J_neg, J_add, J_sub, J_mul, J_lt, J_le, J_eq, J_div2, J_rem2, J_shl1, J_orp, J_or, J_and, J_shr, J_ushr, J_max, J_min, J_abs, J_b0, ↓b0_ite, ↓b0_ite2, b0_ite, bI_r, bV_r, b01_ite, ite_true, ite_false, rZ_b, K_l, J_long, M_in, e0]
  exact key
theorem wS_w (hG : LG W l) (hk : 0 ≤ k ∧ k < len W l) : wayM (Ps W l (k + 1) % 40 - Ps W l k % 40) (Ps W l (k + 1) / 40 - Ps W l k / 40) = Dw W l k := by
  obtain ⟨r, j, a1, a2, a3, a4, e⟩ := run_of hG hk.1 hk.2
  have d := D_run hG a1 a2 a3 a4
  have q1 := P_run hG a1 a2 a3 (by omega)
  have q2 := P_run hG a1 a2 (j := j + 1) (by omega) (by omega)
  have i1 := P_in hG hk.1 (by omega)
  have i2 := P_in hG (k := k + 1) (by omega) (by omega)
  have wl := wy_le (W := W) (l := l) (r := r)
  have w0 := hG.2.1 r a1 a2
  rw [← e] at d q1
  rw [show pr W l r + (j + 1) = k + 1 by omega] at q2
  rw [d]
  have mx1 : (j + 1) * dxI (wy W l r) = j * dxI (wy W l r) + dxI (wy W l r) := by rw [Int.add_mul, Int.one_mul]
  have my1 : (j + 1) * dyI (wy W l r) = j * dyI (wy W l r) + dyI (wy W l r) := by rw [Int.add_mul, Int.one_mul]
  have ex : Ps W l (k + 1) % 40 - Ps W l k % 40 = dxI (wy W l r) := by
    unfold Ps
    omega
  have ey : Ps W l (k + 1) / 40 - Ps W l k / 40 = dyI (wy W l r) := by
    unfold Ps
    omega
  rw [ex, ey]
  exact wayM_w (by omega)
theorem M_wayOfStation (hl : 0 ≤ l ∧ l < 8) (hG : LG (m 3) l) (h8 : m 8 l = len (m 3) l) (h9 : ∀ i, 0 ≤ i → i ≤ len (m 3) l → m 9 (400 * l + i) = Ps (m 3) l i) (ht : 0 ≤ t ∧ t < cT (m 3) l) : qM_wayOfStation y (J l) (J t) (hi y TM g w m) = rI (J (wS (m 3) l (st (m 3) l t))) (hi y TM g w m) := by
  have hb := hG.1
  have b2 := hb.2.1
  have e0 := M_stepsTo (y := y) (g := g) (w := w) hl hG h8 (show 0 ≤ t ∧ t < 20 by omega)
  have sb := st_in hG ht.1 ht.2
  have lb := len_bd hb
  have lp := len_pos hG
  have rd : ∀ i, 0 ≤ i → i ≤ len (m 3) l → m 9 (400 * l + i) = Ps (m 3) l i := h9
  have go : ∀ f, 0 ≤ f → f < len (m 3) l → qM_wayOfStation_49 (J (Ps (m 3) l f)) (J (f + 1)) (J (400 * l)) (y + 9) (hi y TM g w m) = rI (J (Dw (m 3) l f)) (hi y TM g w m) := fun f f0 f1 => by
    have q1 := Ps_in hG f0 (by omega)
    have q2 := Ps_in hG (k := f + 1) (by omega) (by omega)
    unfold qM_wayOfStation_49
    simp (disch := omega) only [↓isO_M, ↓gL_H, ↓pL_H, ↓gI_M1, ↓gI_M2, ↓gI_M3, ↓gI_M4, ↓gI_M5, ↓gI_M6, ↓gI_M13, ↓gI_M22, ↓gI_M23, ↓gI_M24, ↓gI_M25, ↓gI_M27, ↓gI_M28, ↓gI_M29, ↓gI_M30, ↓gI_M31, ↓gI_M32, ↓gI_M33, ↓gI_M34, ↓gI_M35, ↓gI_M40, ↓gI_M41, ↓gI_M42, ↓gI_M43, ↓pV_M1, ↓pV_M2, ↓pV_M3, ↓pV_M4, ↓pV_M5, ↓pV_M6, ↓pV_M13, ↓pV_M22, ↓pV_M23, ↓pV_M24, ↓pV_M25, ↓pV_M27, ↓pV_M28, ↓pV_M29, ↓pV_M30, ↓pV_M31, ↓pV_M32, ↓pV_M33, ↓pV_M34, ↓pV_M35, ↓pV_M40, ↓pV_M41, ↓pV_M42, ↓pV_M43, ↓gR_M0, ↓gR_M7, ↓gR_M8, ↓gR_M9, ↓gR_M10, ↓gR_M11, ↓gR_M12, ↓gR_M14, ↓gR_M15, ↓gR_M16, ↓gR_M17, ↓gR_M18, ↓gR_M19, ↓gR_M20, ↓gR_M21, ↓gR_M36, ↓gR_M37, ↓gR_M38, ↓gR_M39, ↓rd_M1, ↓rd_M2, ↓rd_M3, ↓rd_M4, ↓rd_M5, ↓rd_M6, ↓rd_M7, ↓rd_M8, ↓rd_M9, ↓rd_M10, ↓rd_M11, ↓rd_M12, ↓rd_M13, ↓rd_M14, ↓rd_M15, ↓rd_M16, ↓rd_M17, ↓rd_M18, ↓rd_M19, ↓wr_M1, ↓wr_M2, ↓wr_M3, ↓wr_M4, ↓wr_M5, ↓wr_M6, ↓wr_M7, ↓wr_M8, ↓wr_M9, ↓wr_M10, ↓wr_M11, ↓wr_M12, ↓wr_M13, ↓wr_M14, ↓wr_M15, ↓wr_M16, ↓wr_M17, ↓wr_M18, ↓wr_M19, pL_H, pV_M1, pV_M2, pV_M3, pV_M4, pV_M5, pV_M6, pV_M13, pV_M22, pV_M23, pV_M24, pV_M25, pV_M27, pV_M28, pV_M29, pV_M30, pV_M31, pV_M32, pV_M33, pV_M34, pV_M35, pV_M40, pV_M41, pV_M42, pV_M43, rd_M1, rd_M2, rd_M3, rd_M4, rd_M5, rd_M6, rd_M7, rd_M8, rd_M9, rd_M10, rd_M11, rd_M12, rd_M13, rd_M14, rd_M15, rd_M16, rd_M17, rd_M18, rd_M19, wr_M1, wr_M2, wr_M3, wr_M4, wr_M5, wr_M6, wr_M7, wr_M8, wr_M9, wr_M10, wr_M11, wr_M12, wr_M13, wr_M14, wr_M15, wr_M16, wr_M17, wr_M18, wr_M19, J_l, J_neg, J_add, J_sub, J_mul, J_lt, J_le, J_eq, J_div2, J_rem2, J_shl1, J_orp, J_or, J_and, J_shr, J_ushr, J_max, J_min, J_abs, J_b0, ↓b0_ite, ↓b0_ite2, b0_ite, bI_r, bV_r, b01_ite, ite_true, ite_false, rZ_b, K_l, J_long, M_in, rd, M_wayTo, wS_w hG ⟨f0, f1⟩]
  have wy1 : ∀ f, 0 ≤ f → f < len (m 3) l → m 9 (400 * l + f) = Ps (m 3) l f := fun f f0 f1 => h9 f f0 (by omega)
  unfold qM_wayOfStation qM_wayOfStation_27 wS
  simp (disch := omega) only [↓isO_M, ↓gL_H, ↓pL_H, ↓gI_M1, ↓gI_M2, ↓gI_M3, ↓gI_M4, ↓gI_M5, ↓gI_M6, ↓gI_M13, ↓gI_M22, ↓gI_M23, ↓gI_M24, ↓gI_M25, ↓gI_M27, ↓gI_M28, ↓gI_M29, ↓gI_M30, ↓gI_M31, ↓gI_M32, ↓gI_M33, ↓gI_M34, ↓gI_M35, ↓gI_M40, ↓gI_M41, ↓gI_M42, ↓gI_M43, ↓pV_M1, ↓pV_M2, ↓pV_M3, ↓pV_M4, ↓pV_M5, ↓pV_M6, ↓pV_M13, ↓pV_M22, ↓pV_M23, ↓pV_M24, ↓pV_M25, ↓pV_M27, ↓pV_M28, ↓pV_M29, ↓pV_M30, ↓pV_M31, ↓pV_M32, ↓pV_M33, ↓pV_M34, ↓pV_M35, ↓pV_M40, ↓pV_M41, ↓pV_M42, ↓pV_M43, ↓gR_M0, ↓gR_M7, ↓gR_M8, ↓gR_M9, ↓gR_M10, ↓gR_M11, ↓gR_M12, ↓gR_M14, ↓gR_M15, ↓gR_M16, ↓gR_M17, ↓gR_M18, ↓gR_M19, ↓gR_M20, ↓gR_M21, ↓gR_M36, ↓gR_M37, ↓gR_M38, ↓gR_M39, ↓rd_M1, ↓rd_M2, ↓rd_M3, ↓rd_M4, ↓rd_M5, ↓rd_M6, ↓rd_M7, ↓rd_M8, ↓rd_M9, ↓rd_M10, ↓rd_M11, ↓rd_M12, ↓rd_M13, ↓rd_M14, ↓rd_M15, ↓rd_M16, ↓rd_M17, ↓rd_M18, ↓rd_M19, ↓wr_M1, ↓wr_M2, ↓wr_M3, ↓wr_M4, ↓wr_M5, ↓wr_M6, ↓wr_M7, ↓wr_M8, ↓wr_M9, ↓wr_M10, ↓wr_M11, ↓wr_M12, ↓wr_M13, ↓wr_M14, ↓wr_M15, ↓wr_M16, ↓wr_M17, ↓wr_M18, ↓wr_M19, pL_H, pV_M1, pV_M2, pV_M3, pV_M4, pV_M5, pV_M6, pV_M13, pV_M22, pV_M23, pV_M24, pV_M25, pV_M27, pV_M28, pV_M29, pV_M30, pV_M31, pV_M32, pV_M33, pV_M34, pV_M35, pV_M40, pV_M41, pV_M42, pV_M43, rd_M1, rd_M2, rd_M3, rd_M4, rd_M5, rd_M6, rd_M7, rd_M8, rd_M9, rd_M10, rd_M11, rd_M12, rd_M13, rd_M14, rd_M15, rd_M16, rd_M17, rd_M18, rd_M19, wr_M1, wr_M2, wr_M3, wr_M4, wr_M5, wr_M6, wr_M7, wr_M8, wr_M9, wr_M10, wr_M11, wr_M12, wr_M13, wr_M14, wr_M15, wr_M16, wr_M17, wr_M18, wr_M19, J_l, J_neg, J_add, J_sub, J_mul, J_lt, J_le, J_eq, J_div2, J_rem2, J_shl1, J_orp, J_or, J_and, J_shr, J_ushr, J_max, J_min, J_abs, J_b0, ↓b0_ite, ↓b0_ite2, b0_ite, bI_r, bV_r, b01_ite, ite_true, ite_false, rZ_b, K_l, J_long, M_in, e0]
  by_cases k0 : st (m 3) l t = 0
  · have := go 0 (by omega) (by omega)
    rw [if_pos k0, if_pos k0]
    simp (disch := omega) only [↓isO_M, ↓gL_H, ↓pL_H, ↓gI_M1, ↓gI_M2, ↓gI_M3, ↓gI_M4, ↓gI_M5, ↓gI_M6, ↓gI_M13, ↓gI_M22, ↓gI_M23, ↓gI_M24, ↓gI_M25, ↓gI_M27, ↓gI_M28, ↓gI_M29, ↓gI_M30, ↓gI_M31, ↓gI_M32, ↓gI_M33, ↓gI_M34, ↓gI_M35, ↓gI_M40, ↓gI_M41, ↓gI_M42, ↓gI_M43, ↓pV_M1, ↓pV_M2, ↓pV_M3, ↓pV_M4, ↓pV_M5, ↓pV_M6, ↓pV_M13, ↓pV_M22, ↓pV_M23, ↓pV_M24, ↓pV_M25, ↓pV_M27, ↓pV_M28, ↓pV_M29, ↓pV_M30, ↓pV_M31, ↓pV_M32, ↓pV_M33, ↓pV_M34, ↓pV_M35, ↓pV_M40, ↓pV_M41, ↓pV_M42, ↓pV_M43, ↓gR_M0, ↓gR_M7, ↓gR_M8, ↓gR_M9, ↓gR_M10, ↓gR_M11, ↓gR_M12, ↓gR_M14, ↓gR_M15, ↓gR_M16, ↓gR_M17, ↓gR_M18, ↓gR_M19, ↓gR_M20, ↓gR_M21, ↓gR_M36, ↓gR_M37, ↓gR_M38, ↓gR_M39, ↓rd_M1, ↓rd_M2, ↓rd_M3, ↓rd_M4, ↓rd_M5, ↓rd_M6, ↓rd_M7, ↓rd_M8, ↓rd_M9, ↓rd_M10, ↓rd_M11, ↓rd_M12, ↓rd_M13, ↓rd_M14, ↓rd_M15, ↓rd_M16, ↓rd_M17, ↓rd_M18, ↓rd_M19, ↓wr_M1, ↓wr_M2, ↓wr_M3, ↓wr_M4, ↓wr_M5, ↓wr_M6, ↓wr_M7, ↓wr_M8, ↓wr_M9, ↓wr_M10, ↓wr_M11, ↓wr_M12, ↓wr_M13, ↓wr_M14, ↓wr_M15, ↓wr_M16, ↓wr_M17, ↓wr_M18, ↓wr_M19, pL_H, pV_M1, pV_M2, pV_M3, pV_M4, pV_M5, pV_M6, pV_M13, pV_M22, pV_M23, pV_M24, pV_M25, pV_M27, pV_M28, pV_M29, pV_M30, pV_M31, pV_M32, pV_M33, pV_M34, pV_M35, pV_M40, pV_M41, pV_M42, pV_M43, rd_M1, rd_M2, rd_M3, rd_M4, rd_M5, rd_M6, rd_M7, rd_M8, rd_M9, rd_M10, rd_M11, rd_M12, rd_M13, rd_M14, rd_M15, rd_M16, rd_M17, rd_M18, rd_M19, wr_M1, wr_M2, wr_M3, wr_M4, wr_M5, wr_M6, wr_M7, wr_M8, wr_M9, wr_M10, wr_M11, wr_M12, wr_M13, wr_M14, wr_M15, wr_M16, wr_M17, wr_M18, wr_M19, J_l, J_neg, J_add, J_sub, J_mul, J_lt, J_le, J_eq, J_div2, J_rem2, J_shl1, J_orp, J_or, J_and, J_shr, J_ushr, J_max, J_min, J_abs, J_b0, ↓b0_ite, ↓b0_ite2, b0_ite, bI_r, bV_r, b01_ite, ite_true, ite_false, rZ_b, K_l, J_long, M_in, rd, if_pos k0]
    exact this
  · have := go (st (m 3) l t - 1) (by omega) (by omega)
    rw [show st (m 3) l t - 1 + 1 = st (m 3) l t by omega] at this
    rw [if_neg k0, if_neg k0]
    simp (disch := omega) only [↓isO_M, ↓gL_H, ↓pL_H, ↓gI_M1, ↓gI_M2, ↓gI_M3, ↓gI_M4, ↓gI_M5, ↓gI_M6, ↓gI_M13, ↓gI_M22, ↓gI_M23, ↓gI_M24, ↓gI_M25, ↓gI_M27, ↓gI_M28, ↓gI_M29, ↓gI_M30, ↓gI_M31, ↓gI_M32, ↓gI_M33, ↓gI_M34, ↓gI_M35, ↓gI_M40, ↓gI_M41, ↓gI_M42, ↓gI_M43, ↓pV_M1, ↓pV_M2, ↓pV_M3, ↓pV_M4, ↓pV_M5, ↓pV_M6, ↓pV_M13, ↓pV_M22, ↓pV_M23, ↓pV_M24, ↓pV_M25, ↓pV_M27, ↓pV_M28, ↓pV_M29, ↓pV_M30, ↓pV_M31, ↓pV_M32, ↓pV_M33, ↓pV_M34, ↓pV_M35, ↓pV_M40, ↓pV_M41, ↓pV_M42, ↓pV_M43, ↓gR_M0, ↓gR_M7, ↓gR_M8, ↓gR_M9, ↓gR_M10, ↓gR_M11, ↓gR_M12, ↓gR_M14, ↓gR_M15, ↓gR_M16, ↓gR_M17, ↓gR_M18, ↓gR_M19, ↓gR_M20, ↓gR_M21, ↓gR_M36, ↓gR_M37, ↓gR_M38, ↓gR_M39, ↓rd_M1, ↓rd_M2, ↓rd_M3, ↓rd_M4, ↓rd_M5, ↓rd_M6, ↓rd_M7, ↓rd_M8, ↓rd_M9, ↓rd_M10, ↓rd_M11, ↓rd_M12, ↓rd_M13, ↓rd_M14, ↓rd_M15, ↓rd_M16, ↓rd_M17, ↓rd_M18, ↓rd_M19, ↓wr_M1, ↓wr_M2, ↓wr_M3, ↓wr_M4, ↓wr_M5, ↓wr_M6, ↓wr_M7, ↓wr_M8, ↓wr_M9, ↓wr_M10, ↓wr_M11, ↓wr_M12, ↓wr_M13, ↓wr_M14, ↓wr_M15, ↓wr_M16, ↓wr_M17, ↓wr_M18, ↓wr_M19, pL_H, pV_M1, pV_M2, pV_M3, pV_M4, pV_M5, pV_M6, pV_M13, pV_M22, pV_M23, pV_M24, pV_M25, pV_M27, pV_M28, pV_M29, pV_M30, pV_M31, pV_M32, pV_M33, pV_M34, pV_M35, pV_M40, pV_M41, pV_M42, pV_M43, rd_M1, rd_M2, rd_M3, rd_M4, rd_M5, rd_M6, rd_M7, rd_M8, rd_M9, rd_M10, rd_M11, rd_M12, rd_M13, rd_M14, rd_M15, rd_M16, rd_M17, rd_M18, rd_M19, wr_M1, wr_M2, wr_M3, wr_M4, wr_M5, wr_M6, wr_M7, wr_M8, wr_M9, wr_M10, wr_M11, wr_M12, wr_M13, wr_M14, wr_M15, wr_M16, wr_M17, wr_M18, wr_M19, J_l, J_neg, J_add, J_sub, J_mul, J_lt, J_le, J_eq, J_div2, J_rem2, J_shl1, J_orp, J_or, J_and, J_shr, J_ushr, J_max, J_min, J_abs, J_b0, ↓b0_ite, ↓b0_ite2, b0_ite, bI_r, bV_r, b01_ite, ite_true, ite_false, rZ_b, K_l, J_long, M_in, rd, if_neg k0]
    exact this
theorem B_station (hg0 : GOk g z) (hI : Inv s m) (hl : -2147483648 ≤ l ∧ l < 2147483648) (ht : -2147483648 ≤ t ∧ t < 2147483648) (hp : -2147483648 ≤ p ∧ p < 2147483648) : Both (qD_station z (J l) (J t) (J p) (hi z TD g w s)) (qM_station y (J l) (J t) (J p) (hi y TM g' w' m)) z y g g' w w' := by
  have hIk := hI
  obtain ⟨hT, hE, ⟨hH, hNm, hP, row, hB, hO⟩, hS, hHi⟩ := hI
  have hn := hH.2.2.2
  have hLB : ∀ l, 0 ≤ l → l < m 0 6 → LB (m 3) l := fun l a b => (hP.1.1 l a b).1
  have hz := Bsz_of hH hP.1
  have hLI := LabI_of hP hB hO
  obtain ⟨m1, e1, l1⟩ := M_lays (y := y) (g := g') (w := w') (m := m) hH rfl rfl hP.1
  have hLM := LabM_of l1 hP.1.2.1 rfl
  have hk1 := KeepM_laid l1
  unfold qD_station qM_station
  simp (disch := omega) only [↓gR_D0, ↓gR_D1, ↓gR_D2, ↓gR_D3, ↓gR_D4, ↓gR_D5, ↓gR_D6, ↓gR_D7, ↓gR_D8, ↓gR_D9, ↓gR_D10, ↓gI_D11, ↓pV_D11, ↓isO_D, ↓gI_T0, ↓pV_T0, ↓gR_T1, ↓isO_T, ↓rd_T2, ↓wr_T2, ↓gI_U0, ↓pV_U0, ↓gR_U1, ↓isO_U, ↓rd_U2, ↓wr_U2, ↓gI_Ps0, ↓pV_Ps0, ↓gI_Ps1, ↓pV_Ps1, ↓gI_Ps2, ↓pV_Ps2, ↓gI_Ps3, ↓pV_Ps3, ↓gI_Ps4, ↓pV_Ps4, ↓isO_Ps, ↓gI_N0, ↓pV_N0, ↓gI_N1, ↓pV_N1, ↓gI_N2, ↓pV_N2, ↓gI_N3, ↓pV_N3, ↓gR_N4, ↓gR_N5, ↓isO_N, ↓rd_NL, ↓gI_NB0, ↓pV_NB0, ↓gR_NB1, ↓gR_NB2, ↓isO_NB, ↓rd_NC, ↓wr_NC, ↓ln_NC, ↓rd_NP, ↓wr_NP, ↓ln_NP, ↓gI_V0, ↓pV_V0, ↓gI_V1, ↓pV_V1, ↓gI_V2, ↓pV_V2, ↓gI_V3, ↓pV_V3, ↓gR_V4, ↓gR_V5, ↓isO_V, ↓rd_VL, ↓gI_VB0, ↓pV_VB0, ↓gR_VB1, ↓gR_VB2, ↓isO_VB, ↓rd_VC, ↓wr_VC, ↓ln_VC, ↓rd_VP, ↓wr_VP, ↓ln_VP, ↓rd_SL, ↓rd_KP, ↓wr_KP, ↓gI_H0, ↓pV_H0, ↓gI_H1, ↓pV_H1, ↓gR_H2, ↓isO_H, ↓rd_HP, ↓gI_B0, ↓pV_B0, ↓gI_B1, ↓pV_B1, ↓gR_B2, ↓gR_B3, ↓gR_B4, ↓gR_B5, ↓gR_B6, ↓gR_B7, ↓gR_B8, ↓isO_B, ↓rd_B301, ↓wr_B301, ↓ln_B301, ↓rd_B302, ↓wr_B302, ↓ln_B302, ↓rd_B303, ↓wr_B303, ↓ln_B303, ↓rd_B304, ↓wr_B304, ↓ln_B304, ↓rd_B305, ↓wr_B305, ↓ln_B305, ↓rd_B306, ↓wr_B306, ↓ln_B306, ↓rd_B307, ↓wr_B307, ↓ln_B307, ↓gR_Tv, ↓isO_Tv, ↓rd_Tv9, ↓wr_Tv9, ↓ln_Tv9, pV_D11, pV_T0, rd_T2, wr_T2, pV_U0, rd_U2, wr_U2, pV_Ps0, pV_Ps1, pV_Ps2, pV_Ps3, pV_Ps4, pV_N0, pV_N1, pV_N2, pV_N3, rd_NL, pV_NB0, rd_NC, wr_NC, rd_NP, wr_NP, pV_V0, pV_V1, pV_V2, pV_V3, rd_VL, pV_VB0, rd_VC, wr_VC, rd_VP, wr_VP, rd_SL, rd_KP, wr_KP, pV_H0, pV_H1, rd_HP, pV_B0, pV_B1, rd_B301, wr_B301, rd_B302, wr_B302, rd_B303, wr_B303, rd_B304, wr_B304, rd_B305, wr_B305, rd_B306, wr_B306, rd_B307, wr_B307, rd_Tv9, wr_Tv9, ↓isO_M, ↓gL_H, ↓pL_H, ↓gI_M1, ↓gI_M2, ↓gI_M3, ↓gI_M4, ↓gI_M5, ↓gI_M6, ↓gI_M13, ↓gI_M22, ↓gI_M23, ↓gI_M24, ↓gI_M25, ↓gI_M27, ↓gI_M28, ↓gI_M29, ↓gI_M30, ↓gI_M31, ↓gI_M32, ↓gI_M33, ↓gI_M34, ↓gI_M35, ↓gI_M40, ↓gI_M41, ↓gI_M42, ↓gI_M43, ↓pV_M1, ↓pV_M2, ↓pV_M3, ↓pV_M4, ↓pV_M5, ↓pV_M6, ↓pV_M13, ↓pV_M22, ↓pV_M23, ↓pV_M24, ↓pV_M25, ↓pV_M27, ↓pV_M28, ↓pV_M29, ↓pV_M30, ↓pV_M31, ↓pV_M32, ↓pV_M33, ↓pV_M34, ↓pV_M35, ↓pV_M40, ↓pV_M41, ↓pV_M42, ↓pV_M43, ↓gR_M0, ↓gR_M7, ↓gR_M8, ↓gR_M9, ↓gR_M10, ↓gR_M11, ↓gR_M12, ↓gR_M14, ↓gR_M15, ↓gR_M16, ↓gR_M17, ↓gR_M18, ↓gR_M19, ↓gR_M20, ↓gR_M21, ↓gR_M36, ↓gR_M37, ↓gR_M38, ↓gR_M39, ↓rd_M1, ↓rd_M2, ↓rd_M3, ↓rd_M4, ↓rd_M5, ↓rd_M6, ↓rd_M7, ↓rd_M8, ↓rd_M9, ↓rd_M10, ↓rd_M11, ↓rd_M12, ↓rd_M13, ↓rd_M14, ↓rd_M15, ↓rd_M16, ↓rd_M17, ↓rd_M18, ↓rd_M19, ↓wr_M1, ↓wr_M2, ↓wr_M3, ↓wr_M4, ↓wr_M5, ↓wr_M6, ↓wr_M7, ↓wr_M8, ↓wr_M9, ↓wr_M10, ↓wr_M11, ↓wr_M12, ↓wr_M13, ↓wr_M14, ↓wr_M15, ↓wr_M16, ↓wr_M17, ↓wr_M18, ↓wr_M19, pL_H, pV_M1, pV_M2, pV_M3, pV_M4, pV_M5, pV_M6, pV_M13, pV_M22, pV_M23, pV_M24, pV_M25, pV_M27, pV_M28, pV_M29, pV_M30, pV_M31, pV_M32, pV_M33, pV_M34, pV_M35, pV_M40, pV_M41, pV_M42, pV_M43, rd_M1, rd_M2, rd_M3, rd_M4, rd_M5, rd_M6, rd_M7, rd_M8, rd_M9, rd_M10, rd_M11, rd_M12, rd_M13, rd_M14, rd_M15, rd_M16, rd_M17, rd_M18, rd_M19, wr_M1, wr_M2, wr_M3, wr_M4, wr_M5, wr_M6, wr_M7, wr_M8, wr_M9, wr_M10, wr_M11, wr_M12, wr_M13, wr_M14, wr_M15, wr_M16, wr_M17, wr_M18, wr_M19, J_l, J_neg, J_add, J_sub, J_mul, J_lt, J_le, J_eq, J_div2, J_rem2, J_shl1, J_orp, J_or, J_and, J_shr, J_ushr, J_max, J_min, J_abs, J_b0, ↓b0_ite, ↓b0_ite2, b0_ite, bI_r, bV_r, b01_ite, ite_true, ite_false, rZ_b, K_l, J_long, M_in, D_isStation hP.2 hn hLB hl ht, M_isStation rfl rfl hn hLB hl ht]
  by_cases h1 : (0 ≤ l ∧ l < m 0 6) ∧ 0 ≤ t ∧ t < cT (m 3) l
  · rw [if_pos h1, if_pos h1]
    obtain ⟨hLn, hv1⟩ := now_line hP.2 h1.1 hn.2
    have hG := hP.1.1 l h1.1.1 h1.1.2
    have hb := hG.1
    have b2 := hb.2.1
    have b3 := hb.2.2.1
    have kW : m1 3 = m 3 := l1.1 3 (by decide) (by decide) (by decide) (by decide) (by decide) (by decide) (by decide) (by decide)
    have x2 := C_stationCell (z := z) (g := g) (w := w) hB.2.1 hn hLB h1.1 h1.2
    have x3 := M_cellOf2 (y := y) (g := g') (w := w') l1 rfl hP.1.1 hn h1.1 h1.2
    have c1 : 0 ≤ sc (m 3) l t ∧ sc (m 3) l t < 1600 := sc_in hG h1.2.1 h1.2.2
    have sb := st_in hG h1.2.1 h1.2.2
    have y1 := L_wayToStep (z := z) (w := w) hg0 hLn hv1 hG sb
    have h8 := l1.2.1 l h1.1.1 h1.1.2
    have y2 := M_stepsTo (y := y) (g := g') (w := w') (m := m1) (l := l) (t := t) (by omega) (by rw [kW]; exact hG) (by rw [kW]; exact h8.1) (by omega)
    have y3 := M_wayOfStation (y := y) (g := g') (w := w') (m := m1) (l := l) (t := t) (by omega) (by rw [kW]; exact hG) (by rw [kW]; exact h8.1) (by rw [kW]; exact h8.2) (by rw [kW]; exact h1.2)
    have y4 := M_longOfStation (y := y) (g := g') (w := w') (m := m1) (l := l) (t := t) (by omega) (by omega)
    have y5 := L_steps (z := z) (g := g) (w := w) hLn hv1 hb
    have y6 := L_stepOfStation (z := z) (g := g) (w := w) (i := t) hLn hv1 hb (by omega)
    have y7 := L_longOf (z := z) (g := g) (w := w) (i := t) hLn hv1 (by omega)
    have x4 := hB.2.1.1 _ c1.1 c1.2
    have x5 := l1.2.2.1 _ c1.1 c1.2
    rw [kW] at y2 y3 y4
    simp (disch := first | assumption | omega) only [↓gR_D0, ↓gR_D1, ↓gR_D2, ↓gR_D3, ↓gR_D4, ↓gR_D5, ↓gR_D6, ↓gR_D7, ↓gR_D8, ↓gR_D9, ↓gR_D10, ↓gI_D11, ↓pV_D11, ↓isO_D, ↓gI_T0, ↓pV_T0, ↓gR_T1, ↓isO_T, ↓rd_T2, ↓wr_T2, ↓gI_U0, ↓pV_U0, ↓gR_U1, ↓isO_U, ↓rd_U2, ↓wr_U2, ↓gI_Ps0, ↓pV_Ps0, ↓gI_Ps1, ↓pV_Ps1, ↓gI_Ps2, ↓pV_Ps2, ↓gI_Ps3, ↓pV_Ps3, ↓gI_Ps4, ↓pV_Ps4, ↓isO_Ps, ↓gI_N0, ↓pV_N0, ↓gI_N1, ↓pV_N1, ↓gI_N2, ↓pV_N2, ↓gI_N3, ↓pV_N3, ↓gR_N4, ↓gR_N5, ↓isO_N, ↓rd_NL, ↓gI_NB0, ↓pV_NB0, ↓gR_NB1, ↓gR_NB2, ↓isO_NB, ↓rd_NC, ↓wr_NC, ↓ln_NC, ↓rd_NP, ↓wr_NP, ↓ln_NP, ↓gI_V0, ↓pV_V0, ↓gI_V1, ↓pV_V1, ↓gI_V2, ↓pV_V2, ↓gI_V3, ↓pV_V3, ↓gR_V4, ↓gR_V5, ↓isO_V, ↓rd_VL, ↓gI_VB0, ↓pV_VB0, ↓gR_VB1, ↓gR_VB2, ↓isO_VB, ↓rd_VC, ↓wr_VC, ↓ln_VC, ↓rd_VP, ↓wr_VP, ↓ln_VP, ↓rd_SL, ↓rd_KP, ↓wr_KP, ↓gI_H0, ↓pV_H0, ↓gI_H1, ↓pV_H1, ↓gR_H2, ↓isO_H, ↓rd_HP, ↓gI_B0, ↓pV_B0, ↓gI_B1, ↓pV_B1, ↓gR_B2, ↓gR_B3, ↓gR_B4, ↓gR_B5, ↓gR_B6, ↓gR_B7, ↓gR_B8, ↓isO_B, ↓rd_B301, ↓wr_B301, ↓ln_B301, ↓rd_B302, ↓wr_B302, ↓ln_B302, ↓rd_B303, ↓wr_B303, ↓ln_B303, ↓rd_B304, ↓wr_B304, ↓ln_B304, ↓rd_B305, ↓wr_B305, ↓ln_B305, ↓rd_B306, ↓wr_B306, ↓ln_B306, ↓rd_B307, ↓wr_B307, ↓ln_B307, ↓gR_Tv, ↓isO_Tv, ↓rd_Tv9, ↓wr_Tv9, ↓ln_Tv9, pV_D11, pV_T0, rd_T2, wr_T2, pV_U0, rd_U2, wr_U2, pV_Ps0, pV_Ps1, pV_Ps2, pV_Ps3, pV_Ps4, pV_N0, pV_N1, pV_N2, pV_N3, rd_NL, pV_NB0, rd_NC, wr_NC, rd_NP, wr_NP, pV_V0, pV_V1, pV_V2, pV_V3, rd_VL, pV_VB0, rd_VC, wr_VC, rd_VP, wr_VP, rd_SL, rd_KP, wr_KP, pV_H0, pV_H1, rd_HP, pV_B0, pV_B1, rd_B301, wr_B301, rd_B302, wr_B302, rd_B303, wr_B303, rd_B304, wr_B304, rd_B305, wr_B305, rd_B306, wr_B306, rd_B307, wr_B307, rd_Tv9, wr_Tv9, ↓isO_L, ↓gI_L0, ↓pV_L0, ↓gI_L1, ↓pV_L1, ↓gI_L2, ↓pV_L2, ↓gI_L3, ↓pV_L3, ↓gR_L4, ↓rd_L4, ↓wr_L4, ↓gR_L5, ↓rd_L5, ↓wr_L5, pV_L0, pV_L1, pV_L2, pV_L3, rd_L4, wr_L4, rd_L5, wr_L5, ↓isO_M, ↓gL_H, ↓pL_H, ↓gI_M1, ↓gI_M2, ↓gI_M3, ↓gI_M4, ↓gI_M5, ↓gI_M6, ↓gI_M13, ↓gI_M22, ↓gI_M23, ↓gI_M24, ↓gI_M25, ↓gI_M27, ↓gI_M28, ↓gI_M29, ↓gI_M30, ↓gI_M31, ↓gI_M32, ↓gI_M33, ↓gI_M34, ↓gI_M35, ↓gI_M40, ↓gI_M41, ↓gI_M42, ↓gI_M43, ↓pV_M1, ↓pV_M2, ↓pV_M3, ↓pV_M4, ↓pV_M5, ↓pV_M6, ↓pV_M13, ↓pV_M22, ↓pV_M23, ↓pV_M24, ↓pV_M25, ↓pV_M27, ↓pV_M28, ↓pV_M29, ↓pV_M30, ↓pV_M31, ↓pV_M32, ↓pV_M33, ↓pV_M34, ↓pV_M35, ↓pV_M40, ↓pV_M41, ↓pV_M42, ↓pV_M43, ↓gR_M0, ↓gR_M7, ↓gR_M8, ↓gR_M9, ↓gR_M10, ↓gR_M11, ↓gR_M12, ↓gR_M14, ↓gR_M15, ↓gR_M16, ↓gR_M17, ↓gR_M18, ↓gR_M19, ↓gR_M20, ↓gR_M21, ↓gR_M36, ↓gR_M37, ↓gR_M38, ↓gR_M39, ↓rd_M1, ↓rd_M2, ↓rd_M3, ↓rd_M4, ↓rd_M5, ↓rd_M6, ↓rd_M7, ↓rd_M8, ↓rd_M9, ↓rd_M10, ↓rd_M11, ↓rd_M12, ↓rd_M13, ↓rd_M14, ↓rd_M15, ↓rd_M16, ↓rd_M17, ↓rd_M18, ↓rd_M19, ↓wr_M1, ↓wr_M2, ↓wr_M3, ↓wr_M4, ↓wr_M5, ↓wr_M6, ↓wr_M7, ↓wr_M8, ↓wr_M9, ↓wr_M10, ↓wr_M11, ↓wr_M12, ↓wr_M13, ↓wr_M14, ↓wr_M15, ↓wr_M16, ↓wr_M17, ↓wr_M18, ↓wr_M19, pL_H, pV_M1, pV_M2, pV_M3, pV_M4, pV_M5, pV_M6, pV_M13, pV_M22, pV_M23, pV_M24, pV_M25, pV_M27, pV_M28, pV_M29, pV_M30, pV_M31, pV_M32, pV_M33, pV_M34, pV_M35, pV_M40, pV_M41, pV_M42, pV_M43, rd_M1, rd_M2, rd_M3, rd_M4, rd_M5, rd_M6, rd_M7, rd_M8, rd_M9, rd_M10, rd_M11, rd_M12, rd_M13, rd_M14, rd_M15, rd_M16, rd_M17, rd_M18, rd_M19, wr_M1, wr_M2, wr_M3, wr_M4, wr_M5, wr_M6, wr_M7, wr_M8, wr_M9, wr_M10, wr_M11, wr_M12, wr_M13, wr_M14, wr_M15, wr_M16, wr_M17, wr_M18, wr_M19, J_l, J_neg, J_add, J_sub, J_mul, J_lt, J_le, J_eq, J_div2, J_rem2, J_shl1, J_orp, J_or, J_and, J_shr, J_ushr, J_max, J_min, J_abs, J_b0, ↓b0_ite, ↓b0_ite2, b0_ite, bI_r, bV_r, b01_ite, ite_true, ite_false, rZ_b, K_l, J_long, M_in, e1, x2, x3, x4, x5, y1, y2, y3, y4, y5, y6, y7, C_columnOf, C_rowOf]
    (repeat' split) <;> exact B_keep hIk rfl rfl KeepS.refl hk1
  · rw [if_neg h1, if_neg h1]
    exact B_keep hIk rfl rfl KeepS.refl KeepM.refl
end SQ
