/-! crossings between cells, steps side by side -/
section BW
variable {z y : Nat} {g g' : XH} {w w' : Int64} {s s' s0 s1 s2 m m' m0 m1 m2 : CT} {G W W' V W1 row row' r0 nm lo lg sn f : Int → Int} {wd hg mt c i j l n p v t k x xx yy N q o to : Int} {a b : Nat} {h : XH}
variable {P Q A B : Int → Prop} {k r u e : Int} {F : Int → Int → Int}
theorem iand1 (h : 0 ≤ u) : iand u 1 = u % 2 := by
  unfold iand
  rw [show (1 : Int).toNat = 2 ^ 1 - 1 from rfl, Nat.and_two_pow_sub_one_eq_mod]
  omega
theorem M_has (hl : 0 ≤ l ∧ l < 8) : qM_has (J (mk P 8)) (J l) h = rI (J (b01 (P l))) h := by
  have b := mk_nat8 (P := P)
  have e := bit_of (P := P) hl
  have bb := mk_le255 (P := P)
  have p2 : 0 ≤ mk P 8 / pw l := Int.ediv_nonneg bb.1 (by have := pw_pos (n := l); omega)
  have e2 : mk P 8 / pw l % 2 = b01 (P l) := by
    rw [← e]
    unfold pw
    rw [← b.1]
    simp
  unfold qM_has
  simp (disch := omega) only [J_l, J_neg, J_add, J_sub, J_mul, J_lt, J_le, J_eq, J_div2, J_rem2, J_shl1, J_orp, J_or, J_and, J_shr, J_ushr, J_max, J_min, J_abs, J_b0, ↓b0_ite, ↓b0_ite2, b0_ite, bI_r, bV_r, b01_ite, ite_true, ite_false, rZ_b, K_l, J_long, M_in, iand1, e2]
  refine congrArg (fun v => rI (J v) h) (b01_congr ⟨fun q => ?_, fun q => b01_pos q⟩)
  by_cases hp : P l
  · exact hp
  · rw [b01_neg hp] at q
    omega
noncomputable def vP (W : Int → Int) (n j i : Int) : Prop := i < n ∧ onE W i (len W i) j
theorem LVs_mk : LVs W n j = mk (vP W n j) 8 := rfl
theorem LVs_bd : 0 ≤ LVs W n j ∧ LVs W n j ≤ 255 := mk_le255
theorem pw_32 : pw 32 = 4294967296 := by decide
theorem SP_bd : 0 ≤ SP W n c ∧ SP W n c < 4294967296 := by
  have := mk_lt (P := fun b => b % 8 < n ∧ onE W (b % 8) (len W (b % 8)) (4 * c + b / 8)) (n := 32) (by omega)
  rw [pw_32] at this
  exact this
theorem SP_sub (hk : 0 ≤ k ∧ k < 4) : iand (SP W n c / pw (8 * k)) 255 = LVs W n (4 * c + k) := by
  unfold SP
  rw [mk_shr (by omega) (by omega), ← mk_true8, mk_sub (by omega) (by omega), LVs_mk]
  refine mk_congr fun i i1 i2 => ?_
  rw [show (8 * k + i) % 8 = i by omega, show (8 * k + i) / 8 = k by omega]
  exact Iff.rfl
theorem C_stepMask (hB : BdL W s n) (hc : 0 ≤ c ∧ c < 1600) (hk : 0 ≤ k ∧ k < 4) : qB_stepMask (z + 300) (J c) (J k) (hi z TD g w s) = rI (J (LVs W n (4 * c + k))) (hi z TD g w s) := by
  have x1 := (hB.1 c hc.1 hc.2).2.1
  have sb := SP_bd (W := W) (n := n) (c := c)
  have p2 : 0 ≤ SP W n c / pw (8 * k) := Int.ediv_nonneg sb.1 (by have := pw_pos (n := 8 * k); omega)
  unfold qB_stepMask
  simp (disch := omega) only [↓gR_D0, ↓gR_D1, ↓gR_D2, ↓gR_D3, ↓gR_D4, ↓gR_D5, ↓gR_D6, ↓gR_D7, ↓gR_D8, ↓gR_D9, ↓gR_D10, ↓gI_D11, ↓pV_D11, ↓isO_D, ↓gI_T0, ↓pV_T0, ↓gR_T1, ↓isO_T, ↓rd_T2, ↓wr_T2, ↓gI_U0, ↓pV_U0, ↓gR_U1, ↓isO_U, ↓rd_U2, ↓wr_U2, ↓gI_Ps0, ↓pV_Ps0, ↓gI_Ps1, ↓pV_Ps1, ↓gI_Ps2, ↓pV_Ps2, ↓gI_Ps3, ↓pV_Ps3, ↓gI_Ps4, ↓pV_Ps4, ↓isO_Ps, ↓gI_N0, ↓pV_N0, ↓gI_N1, ↓pV_N1, ↓gI_N2, ↓pV_N2, ↓gI_N3, ↓pV_N3, ↓gR_N4, ↓gR_N5, ↓isO_N, ↓rd_NL, ↓gI_NB0, ↓pV_NB0, ↓gR_NB1, ↓gR_NB2, ↓isO_NB, ↓rd_NC, ↓wr_NC, ↓ln_NC, ↓rd_NP, ↓wr_NP, ↓ln_NP, ↓gI_V0, ↓pV_V0, ↓gI_V1, ↓pV_V1, ↓gI_V2, ↓pV_V2, ↓gI_V3, ↓pV_V3, ↓gR_V4, ↓gR_V5, ↓isO_V, ↓rd_VL, ↓gI_VB0, ↓pV_VB0, ↓gR_VB1, ↓gR_VB2, ↓isO_VB, ↓rd_VC, ↓wr_VC, ↓ln_VC, ↓rd_VP, ↓wr_VP, ↓ln_VP, ↓rd_SL, ↓rd_KP, ↓wr_KP, ↓gI_H0, ↓pV_H0, ↓gI_H1, ↓pV_H1, ↓gR_H2, ↓isO_H, ↓rd_HP, ↓gI_B0, ↓pV_B0, ↓gI_B1, ↓pV_B1, ↓gR_B2, ↓gR_B3, ↓gR_B4, ↓gR_B5, ↓gR_B6, ↓gR_B7, ↓gR_B8, ↓isO_B, ↓rd_B301, ↓wr_B301, ↓ln_B301, ↓rd_B302, ↓wr_B302, ↓ln_B302, ↓rd_B303, ↓wr_B303, ↓ln_B303, ↓rd_B304, ↓wr_B304, ↓ln_B304, ↓rd_B305, ↓wr_B305, ↓ln_B305, ↓rd_B306, ↓wr_B306, ↓ln_B306, ↓rd_B307, ↓wr_B307, ↓ln_B307, ↓gR_Tv, ↓isO_Tv, ↓rd_Tv9, ↓wr_Tv9, ↓ln_Tv9, pV_D11, pV_T0, rd_T2, wr_T2, pV_U0, rd_U2, wr_U2, pV_Ps0, pV_Ps1, pV_Ps2, pV_Ps3, pV_Ps4, pV_N0, pV_N1, pV_N2, pV_N3, rd_NL, pV_NB0, rd_NC, wr_NC, rd_NP, wr_NP, pV_V0, pV_V1, pV_V2, pV_V3, rd_VL, pV_VB0, rd_VC, wr_VC, rd_VP, wr_VP, rd_SL, rd_KP, wr_KP, pV_H0, pV_H1, rd_HP, pV_B0, pV_B1, rd_B301, wr_B301, rd_B302, wr_B302, rd_B303, wr_B303, rd_B304, wr_B304, rd_B305, wr_B305, rd_B306, wr_B306, rd_B307, wr_B307, rd_Tv9, wr_Tv9, J_l, J_neg, J_add, J_sub, J_mul, J_lt, J_le, J_eq, J_div2, J_rem2, J_shl1, J_orp, J_or, J_and, J_shr, J_ushr, J_max, J_min, J_abs, J_b0, ↓b0_ite, ↓b0_ite2, b0_ite, bI_r, bV_r, b01_ite, ite_true, ite_false, rZ_b, K_l, J_long, M_in, x1, SP_sub hk]
theorem k_56 (h : 0 ≤ u ∧ u ≤ 8) : 0 ≤ u * (u - 1) ∧ u * (u - 1) ≤ 56 := by
  have : u = 0 ∨ u = 1 ∨ u = 2 ∨ u = 3 ∨ u = 4 ∨ u = 5 ∨ u = 6 ∨ u = 7 ∨ u = 8 := by omega
  rcases this with rfl | rfl | rfl | rfl | rfl | rfl | rfl | rfl | rfl <;> decide
theorem C_countPairs : qB_countPairs (J (mk A 8)) (J (mk B 8)) h = rI (J (prs A B 8)) h := by
  have e1 := C_bitK (P := fun i => A i ∧ B i) (h := h)
  have b1 := mk_le255 (P := A)
  have b2 := mk_le255 (P := B)
  rw [← iand_mk (by omega)] at e1
  have cb := cnt_bd (P := fun i => A i ∧ B i) (n := 8) (by omega)
  have f := prs_f (A := A) (B := B) (n := 8) (by omega)
  have k56 := k_56 (u := cnt (fun i => A i ∧ B i) 8) (by omega)
  unfold qB_countPairs
  simp (disch := omega) only [J_l, J_neg, J_add, J_sub, J_mul, J_lt, J_le, J_eq, J_div2, J_rem2, J_shl1, J_orp, J_or, J_and, J_shr, J_ushr, J_max, J_min, J_abs, J_b0, ↓b0_ite, ↓b0_ite2, b0_ite, bI_r, bV_r, b01_ite, ite_true, ite_false, rZ_b, K_l, J_long, M_in, e1, C_bitK]
  refine congrArg (fun v => rI (J v) h) ?_
  generalize cnt (fun i => A i ∧ B i) 8 * (cnt (fun i => A i ∧ B i) 8 - 1) = y at f k56 ⊢
  generalize cnt A 8 * cnt B 8 = q at f ⊢
  omega
theorem prs_z (h : ∀ i, 0 ≤ i → i < n → ¬A i) (hn : 0 ≤ n) : prs A B n = 0 := sm_z hn fun b b1 b2 => sm_z b1 fun a a1 a2 => b01_neg fun q => q.elim (fun q => h a a1 (by omega) q.1) (fun q => h b b1 b2 q.1)
theorem C_countBetween (hB : BdL W s n) : qB_countBetween (z + 300) (J (mk Q 8)) (hi z TD g w s) = rI (J (sm (fun c => prs (fun i => vP W n (4 * c + 1) i ∧ Q i) (fun i => vP W n (4 * (c + 1) + 3) i ∧ Q i) 8) 1599)) (hi z TD g w s) := by
  refine loopI (S := Int) (fun N c => qB_countBetween_4 N (z + 300) (J (mk Q 8)) (J (sm (fun c => prs (fun i => vP W n (4 * c + 1) i ∧ Q i) (fun i => vP W n (4 * (c + 1) + 3) i ∧ Q i) 8) c)) (J c) (hi z TD g w s)) (fun X => X = rI (J (sm (fun c => prs (fun i => vP W n (4 * c + 1) i ∧ Q i) (fun i => vP W n (4 * (c + 1) + 3) i ∧ Q i) 8) 1599)) (hi z TD g w s)) (fun c => 0 ≤ c ∧ c ≤ 1599) (fun c => 1599 - c) (by intro p hp; omega) (fun N c hc ih => ?_) 0 (by omega) (by omega)
  show qB_countBetween_4_b (qB_countBetween_4 N) (z + 300) (J (mk Q 8)) _ (J c) (hi z TD g w s) = _
  have b2 := mk_le255 (P := Q)
  have b3 := LVs_bd (W := W) (n := n) (j := 4 * c + 1)
  have b4 := LVs_bd (W := W) (n := n) (j := 4 * (c + 1) + 3)
  unfold qB_countBetween_4_b
  simp (disch := omega) only [↓gR_D0, ↓gR_D1, ↓gR_D2, ↓gR_D3, ↓gR_D4, ↓gR_D5, ↓gR_D6, ↓gR_D7, ↓gR_D8, ↓gR_D9, ↓gR_D10, ↓gI_D11, ↓pV_D11, ↓isO_D, ↓gI_T0, ↓pV_T0, ↓gR_T1, ↓isO_T, ↓rd_T2, ↓wr_T2, ↓gI_U0, ↓pV_U0, ↓gR_U1, ↓isO_U, ↓rd_U2, ↓wr_U2, ↓gI_Ps0, ↓pV_Ps0, ↓gI_Ps1, ↓pV_Ps1, ↓gI_Ps2, ↓pV_Ps2, ↓gI_Ps3, ↓pV_Ps3, ↓gI_Ps4, ↓pV_Ps4, ↓isO_Ps, ↓gI_N0, ↓pV_N0, ↓gI_N1, ↓pV_N1, ↓gI_N2, ↓pV_N2, ↓gI_N3, ↓pV_N3, ↓gR_N4, ↓gR_N5, ↓isO_N, ↓rd_NL, ↓gI_NB0, ↓pV_NB0, ↓gR_NB1, ↓gR_NB2, ↓isO_NB, ↓rd_NC, ↓wr_NC, ↓ln_NC, ↓rd_NP, ↓wr_NP, ↓ln_NP, ↓gI_V0, ↓pV_V0, ↓gI_V1, ↓pV_V1, ↓gI_V2, ↓pV_V2, ↓gI_V3, ↓pV_V3, ↓gR_V4, ↓gR_V5, ↓isO_V, ↓rd_VL, ↓gI_VB0, ↓pV_VB0, ↓gR_VB1, ↓gR_VB2, ↓isO_VB, ↓rd_VC, ↓wr_VC, ↓ln_VC, ↓rd_VP, ↓wr_VP, ↓ln_VP, ↓rd_SL, ↓rd_KP, ↓wr_KP, ↓gI_H0, ↓pV_H0, ↓gI_H1, ↓pV_H1, ↓gR_H2, ↓isO_H, ↓rd_HP, ↓gI_B0, ↓pV_B0, ↓gI_B1, ↓pV_B1, ↓gR_B2, ↓gR_B3, ↓gR_B4, ↓gR_B5, ↓gR_B6, ↓gR_B7, ↓gR_B8, ↓isO_B, ↓rd_B301, ↓wr_B301, ↓ln_B301, ↓rd_B302, ↓wr_B302, ↓ln_B302, ↓rd_B303, ↓wr_B303, ↓ln_B303, ↓rd_B304, ↓wr_B304, ↓ln_B304, ↓rd_B305, ↓wr_B305, ↓ln_B305, ↓rd_B306, ↓wr_B306, ↓ln_B306, ↓rd_B307, ↓wr_B307, ↓ln_B307, ↓gR_Tv, ↓isO_Tv, ↓rd_Tv9, ↓wr_Tv9, ↓ln_Tv9, pV_D11, pV_T0, rd_T2, wr_T2, pV_U0, rd_U2, wr_U2, pV_Ps0, pV_Ps1, pV_Ps2, pV_Ps3, pV_Ps4, pV_N0, pV_N1, pV_N2, pV_N3, rd_NL, pV_NB0, rd_NC, wr_NC, rd_NP, wr_NP, pV_V0, pV_V1, pV_V2, pV_V3, rd_VL, pV_VB0, rd_VC, wr_VC, rd_VP, wr_VP, rd_SL, rd_KP, wr_KP, pV_H0, pV_H1, rd_HP, pV_B0, pV_B1, rd_B301, wr_B301, rd_B302, wr_B302, rd_B303, wr_B303, rd_B304, wr_B304, rd_B305, wr_B305, rd_B306, wr_B306, rd_B307, wr_B307, rd_Tv9, wr_Tv9, J_l, J_neg, J_add, J_sub, J_mul, J_lt, J_le, J_eq, J_div2, J_rem2, J_shl1, J_orp, J_or, J_and, J_shr, J_ushr, J_max, J_min, J_abs, J_b0, ↓b0_ite, ↓b0_ite2, b0_ite, bI_r, bV_r, b01_ite, ite_true, ite_false, rZ_b, K_l, J_long, M_in]
  by_cases h0 : c < 1599
  · have hnext := ih (c + 1) (by omega) (by omega)
    rw [sm_s hc.1] at hnext
    have i1 : iand (LVs W n (4 * c + 1)) (mk Q 8) = mk (fun i => vP W n (4 * c + 1) i ∧ Q i) 8 := by rw [LVs_mk, iand_mk (by omega)]
    have i2 : iand (LVs W n (4 * (c + 1) + 3)) (mk Q 8) = mk (fun i => vP W n (4 * (c + 1) + 3) i ∧ Q i) 8 := by rw [LVs_mk, iand_mk (by omega)]
    have m1 := mk_le255 (P := fun i => vP W n (4 * c + 1) i ∧ Q i)
    rw [if_pos h0]
    simp (disch := omega) only [↓gR_D0, ↓gR_D1, ↓gR_D2, ↓gR_D3, ↓gR_D4, ↓gR_D5, ↓gR_D6, ↓gR_D7, ↓gR_D8, ↓gR_D9, ↓gR_D10, ↓gI_D11, ↓pV_D11, ↓isO_D, ↓gI_T0, ↓pV_T0, ↓gR_T1, ↓isO_T, ↓rd_T2, ↓wr_T2, ↓gI_U0, ↓pV_U0, ↓gR_U1, ↓isO_U, ↓rd_U2, ↓wr_U2, ↓gI_Ps0, ↓pV_Ps0, ↓gI_Ps1, ↓pV_Ps1, ↓gI_Ps2, ↓pV_Ps2, ↓gI_Ps3, ↓pV_Ps3, ↓gI_Ps4, ↓pV_Ps4, ↓isO_Ps, ↓gI_N0, ↓pV_N0, ↓gI_N1, ↓pV_N1, ↓gI_N2, ↓pV_N2, ↓gI_N3, ↓pV_N3, ↓gR_N4, ↓gR_N5, ↓isO_N, ↓rd_NL, ↓gI_NB0, ↓pV_NB0, ↓gR_NB1, ↓gR_NB2, ↓isO_NB, ↓rd_NC, ↓wr_NC, ↓ln_NC, ↓rd_NP, ↓wr_NP, ↓ln_NP, ↓gI_V0, ↓pV_V0, ↓gI_V1, ↓pV_V1, ↓gI_V2, ↓pV_V2, ↓gI_V3, ↓pV_V3, ↓gR_V4, ↓gR_V5, ↓isO_V, ↓rd_VL, ↓gI_VB0, ↓pV_VB0, ↓gR_VB1, ↓gR_VB2, ↓isO_VB, ↓rd_VC, ↓wr_VC, ↓ln_VC, ↓rd_VP, ↓wr_VP, ↓ln_VP, ↓rd_SL, ↓rd_KP, ↓wr_KP, ↓gI_H0, ↓pV_H0, ↓gI_H1, ↓pV_H1, ↓gR_H2, ↓isO_H, ↓rd_HP, ↓gI_B0, ↓pV_B0, ↓gI_B1, ↓pV_B1, ↓gR_B2, ↓gR_B3, ↓gR_B4, ↓gR_B5, ↓gR_B6, ↓gR_B7, ↓gR_B8, ↓isO_B, ↓rd_B301, ↓wr_B301, ↓ln_B301, ↓rd_B302, ↓wr_B302, ↓ln_B302, ↓rd_B303, ↓wr_B303, ↓ln_B303, ↓rd_B304, ↓wr_B304, ↓ln_B304, ↓rd_B305, ↓wr_B305, ↓ln_B305, ↓rd_B306, ↓wr_B306, ↓ln_B306, ↓rd_B307, ↓wr_B307, ↓ln_B307, ↓gR_Tv, ↓isO_Tv, ↓rd_Tv9, ↓wr_Tv9, ↓ln_Tv9, pV_D11, pV_T0, rd_T2, wr_T2, pV_U0, rd_U2, wr_U2, pV_Ps0, pV_Ps1, pV_Ps2, pV_Ps3, pV_Ps4, pV_N0, pV_N1, pV_N2, pV_N3, rd_NL, pV_NB0, rd_NC, wr_NC, rd_NP, wr_NP, pV_V0, pV_V1, pV_V2, pV_V3, rd_VL, pV_VB0, rd_VC, wr_VC, rd_VP, wr_VP, rd_SL, rd_KP, wr_KP, pV_H0, pV_H1, rd_HP, pV_B0, pV_B1, rd_B301, wr_B301, rd_B302, wr_B302, rd_B303, wr_B303, rd_B304, wr_B304, rd_B305, wr_B305, rd_B306, wr_B306, rd_B307, wr_B307, rd_Tv9, wr_Tv9, J_l, J_neg, J_add, J_sub, J_mul, J_lt, J_le, J_eq, J_div2, J_rem2, J_shl1, J_orp, J_or, J_and, J_shr, J_ushr, J_max, J_min, J_abs, J_b0, ↓b0_ite, ↓b0_ite2, b0_ite, bI_r, bV_r, b01_ite, ite_true, ite_false, rZ_b, K_l, J_long, M_in, C_stepMask hB, i1, i2, C_countPairs]
    by_cases h1 : mk (fun i => vP W n (4 * c + 1) i ∧ Q i) 8 = 0
    · rw [if_pos h1]
      rw [prs_z (fun i i1 i2 q => (mk_pos (by omega)).mpr ⟨i, i1, i2, q⟩ h1) (by omega), Int.add_zero] at hnext
      exact hnext
    · rw [if_neg h1]
      exact hnext
  · rw [if_neg h0, show c = 1599 by omega]
theorem SP_zz (h : SP W n c = 0) (hk : 0 ≤ k ∧ k < 4) : ∀ i, 0 ≤ i → i < 8 → ¬vP W n (4 * c + k) i := fun i i1 i2 q => (mk_pos (n := 32) (by omega)).mpr ⟨8 * k + i, by omega, by omega, by
  rw [show (8 * k + i) % 8 = i by omega, show (8 * k + i) / 8 = k by omega]
  exact q⟩ h
theorem tri_z (h : ∀ i, 0 ≤ i → i < n → ¬A i) (hn : 0 ≤ n) : tri A n = 0 := sm_z hn fun b b1 b2 => sm_z b1 fun a a1 a2 => b01_neg fun q => h b b1 b2 q.2
/-- steps side by side as a mask sees them -/
noncomputable def sbs (W : Int → Int) (n : Int) (Q : Int → Prop) (j : Int) : Int := tri (fun i => vP W n j i ∧ Q i) 8
theorem C_countSideBySide (hB : BdL W s n) : qB_countSideBySide (z + 300) (J (mk Q 8)) (hi z TD g w s) = rI (J (sm (sbs W n Q) 6400)) (hi z TD g w s) := by
  refine loopI (S := Int) (fun N c => qB_countSideBySide_4 N (z + 300) (J (mk Q 8)) (J (sm (sbs W n Q) (4 * c))) (J c) (hi z TD g w s)) (fun X => X = rI (J (sm (sbs W n Q) 6400)) (hi z TD g w s)) (fun c => 0 ≤ c ∧ c ≤ 1600) (fun c => 1600 - c) (by intro p hp; omega) (fun N c hc ih => ?_) 0 (by omega) (by omega)
  show qB_countSideBySide_4_b (qB_countSideBySide_4 N) (z + 300) (J (mk Q 8)) _ (J c) (hi z TD g w s) = _
  have b2 := mk_le255 (P := Q)
  unfold qB_countSideBySide_4_b
  simp (disch := omega) only [↓gR_D0, ↓gR_D1, ↓gR_D2, ↓gR_D3, ↓gR_D4, ↓gR_D5, ↓gR_D6, ↓gR_D7, ↓gR_D8, ↓gR_D9, ↓gR_D10, ↓gI_D11, ↓pV_D11, ↓isO_D, ↓gI_T0, ↓pV_T0, ↓gR_T1, ↓isO_T, ↓rd_T2, ↓wr_T2, ↓gI_U0, ↓pV_U0, ↓gR_U1, ↓isO_U, ↓rd_U2, ↓wr_U2, ↓gI_Ps0, ↓pV_Ps0, ↓gI_Ps1, ↓pV_Ps1, ↓gI_Ps2, ↓pV_Ps2, ↓gI_Ps3, ↓pV_Ps3, ↓gI_Ps4, ↓pV_Ps4, ↓isO_Ps, ↓gI_N0, ↓pV_N0, ↓gI_N1, ↓pV_N1, ↓gI_N2, ↓pV_N2, ↓gI_N3, ↓pV_N3, ↓gR_N4, ↓gR_N5, ↓isO_N, ↓rd_NL, ↓gI_NB0, ↓pV_NB0, ↓gR_NB1, ↓gR_NB2, ↓isO_NB, ↓rd_NC, ↓wr_NC, ↓ln_NC, ↓rd_NP, ↓wr_NP, ↓ln_NP, ↓gI_V0, ↓pV_V0, ↓gI_V1, ↓pV_V1, ↓gI_V2, ↓pV_V2, ↓gI_V3, ↓pV_V3, ↓gR_V4, ↓gR_V5, ↓isO_V, ↓rd_VL, ↓gI_VB0, ↓pV_VB0, ↓gR_VB1, ↓gR_VB2, ↓isO_VB, ↓rd_VC, ↓wr_VC, ↓ln_VC, ↓rd_VP, ↓wr_VP, ↓ln_VP, ↓rd_SL, ↓rd_KP, ↓wr_KP, ↓gI_H0, ↓pV_H0, ↓gI_H1, ↓pV_H1, ↓gR_H2, ↓isO_H, ↓rd_HP, ↓gI_B0, ↓pV_B0, ↓gI_B1, ↓pV_B1, ↓gR_B2, ↓gR_B3, ↓gR_B4, ↓gR_B5, ↓gR_B6, ↓gR_B7, ↓gR_B8, ↓isO_B, ↓rd_B301, ↓wr_B301, ↓ln_B301, ↓rd_B302, ↓wr_B302, ↓ln_B302, ↓rd_B303, ↓wr_B303, ↓ln_B303, ↓rd_B304, ↓wr_B304, ↓ln_B304, ↓rd_B305, ↓wr_B305, ↓ln_B305, ↓rd_B306, ↓wr_B306, ↓ln_B306, ↓rd_B307, ↓wr_B307, ↓ln_B307, ↓gR_Tv, ↓isO_Tv, ↓rd_Tv9, ↓wr_Tv9, ↓ln_Tv9, pV_D11, pV_T0, rd_T2, wr_T2, pV_U0, rd_U2, wr_U2, pV_Ps0, pV_Ps1, pV_Ps2, pV_Ps3, pV_Ps4, pV_N0, pV_N1, pV_N2, pV_N3, rd_NL, pV_NB0, rd_NC, wr_NC, rd_NP, wr_NP, pV_V0, pV_V1, pV_V2, pV_V3, rd_VL, pV_VB0, rd_VC, wr_VC, rd_VP, wr_VP, rd_SL, rd_KP, wr_KP, pV_H0, pV_H1, rd_HP, pV_B0, pV_B1, rd_B301, wr_B301, rd_B302, wr_B302, rd_B303, wr_B303, rd_B304, wr_B304, rd_B305, wr_B305, rd_B306, wr_B306, rd_B307, wr_B307, rd_Tv9, wr_Tv9, J_l, J_neg, J_add, J_sub, J_mul, J_lt, J_le, J_eq, J_div2, J_rem2, J_shl1, J_orp, J_or, J_and, J_shr, J_ushr, J_max, J_min, J_abs, J_b0, ↓b0_ite, ↓b0_ite2, b0_ite, bI_r, bV_r, b01_ite, ite_true, ite_false, rZ_b, K_l, J_long, M_in]
  by_cases h0 : c < 1600
  · have hnext := ih (c + 1) (by omega) (by omega)
    have x1 := (hB.1 c hc.1 h0).2.1
    have sb := SP_bd (W := W) (n := n) (c := c)
    rw [if_pos h0]
    have key := loopI (S := Int) (fun M k => qB_countSideBySide_14 (qB_countSideBySide_4 N) M (z + 300) (J (mk Q 8)) (J (sm (sbs W n Q) (4 * c + k))) (J c) (J k) (hi z TD g w s)) (fun X => X = rI (J (sm (sbs W n Q) 6400)) (hi z TD g w s)) (fun k => 0 ≤ k ∧ k ≤ 4) (fun k => 4 - k) (by intro p hp; omega) (fun M k hk jh => by
      show qB_countSideBySide_14_b (qB_countSideBySide_4 N) (qB_countSideBySide_14 (qB_countSideBySide_4 N) M) (z + 300) (J (mk Q 8)) (J (sm (sbs W n Q) (4 * c + k))) (J c) (J k) (hi z TD g w s) = _
      unfold qB_countSideBySide_14_b
      have zz : (J (SP W n c) = J 0) = (SP W n c = 0) := propext ⟨fun q => by
        have q2 := congrArg Int32.toInt q
        unfold J at q2
        rw [Int32.toInt_ofInt, Int32.toInt_ofInt] at q2
        simp only [Int.bmod, Int32.size] at q2
        omega, fun q => by rw [q]⟩
      simp (disch := omega) only [↓gR_D0, ↓gR_D1, ↓gR_D2, ↓gR_D3, ↓gR_D4, ↓gR_D5, ↓gR_D6, ↓gR_D7, ↓gR_D8, ↓gR_D9, ↓gR_D10, ↓gI_D11, ↓pV_D11, ↓isO_D, ↓gI_T0, ↓pV_T0, ↓gR_T1, ↓isO_T, ↓rd_T2, ↓wr_T2, ↓gI_U0, ↓pV_U0, ↓gR_U1, ↓isO_U, ↓rd_U2, ↓wr_U2, ↓gI_Ps0, ↓pV_Ps0, ↓gI_Ps1, ↓pV_Ps1, ↓gI_Ps2, ↓pV_Ps2, ↓gI_Ps3, ↓pV_Ps3, ↓gI_Ps4, ↓pV_Ps4, ↓isO_Ps, ↓gI_N0, ↓pV_N0, ↓gI_N1, ↓pV_N1, ↓gI_N2, ↓pV_N2, ↓gI_N3, ↓pV_N3, ↓gR_N4, ↓gR_N5, ↓isO_N, ↓rd_NL, ↓gI_NB0, ↓pV_NB0, ↓gR_NB1, ↓gR_NB2, ↓isO_NB, ↓rd_NC, ↓wr_NC, ↓ln_NC, ↓rd_NP, ↓wr_NP, ↓ln_NP, ↓gI_V0, ↓pV_V0, ↓gI_V1, ↓pV_V1, ↓gI_V2, ↓pV_V2, ↓gI_V3, ↓pV_V3, ↓gR_V4, ↓gR_V5, ↓isO_V, ↓rd_VL, ↓gI_VB0, ↓pV_VB0, ↓gR_VB1, ↓gR_VB2, ↓isO_VB, ↓rd_VC, ↓wr_VC, ↓ln_VC, ↓rd_VP, ↓wr_VP, ↓ln_VP, ↓rd_SL, ↓rd_KP, ↓wr_KP, ↓gI_H0, ↓pV_H0, ↓gI_H1, ↓pV_H1, ↓gR_H2, ↓isO_H, ↓rd_HP, ↓gI_B0, ↓pV_B0, ↓gI_B1, ↓pV_B1, ↓gR_B2, ↓gR_B3, ↓gR_B4, ↓gR_B5, ↓gR_B6, ↓gR_B7, ↓gR_B8, ↓isO_B, ↓rd_B301, ↓wr_B301, ↓ln_B301, ↓rd_B302, ↓wr_B302, ↓ln_B302, ↓rd_B303, ↓wr_B303, ↓ln_B303, ↓rd_B304, ↓wr_B304, ↓ln_B304, ↓rd_B305, ↓wr_B305, ↓ln_B305, ↓rd_B306, ↓wr_B306, ↓ln_B306, ↓rd_B307, ↓wr_B307, ↓ln_B307, ↓gR_Tv, ↓isO_Tv, ↓rd_Tv9, ↓wr_Tv9, ↓ln_Tv9, pV_D11, pV_T0, rd_T2, wr_T2, pV_U0, rd_U2, wr_U2, pV_Ps0, pV_Ps1, pV_Ps2, pV_Ps3, pV_Ps4, pV_N0, pV_N1, pV_N2, pV_N3, rd_NL, pV_NB0, rd_NC, wr_NC, rd_NP, wr_NP, pV_V0, pV_V1, pV_V2, pV_V3, rd_VL, pV_VB0, rd_VC, wr_VC, rd_VP, wr_VP, rd_SL, rd_KP, wr_KP, pV_H0, pV_H1, rd_HP, pV_B0, pV_B1, rd_B301, wr_B301, rd_B302, wr_B302, rd_B303, wr_B303, rd_B304, wr_B304, rd_B305, wr_B305, rd_B306, wr_B306, rd_B307, wr_B307, rd_Tv9, wr_Tv9, J_l, J_neg, J_add, J_sub, J_mul, J_lt, J_le, J_eq, J_div2, J_rem2, J_shl1, J_orp, J_or, J_and, J_shr, J_ushr, J_max, J_min, J_abs, J_b0, ↓b0_ite, ↓b0_ite2, b0_ite, bI_r, bV_r, b01_ite, ite_true, ite_false, rZ_b, K_l, J_long, M_in, x1, zz]
      by_cases h1 : SP W n c = 0
      · rw [if_pos h1]
        have e : sm (sbs W n Q) (4 * c + k) = sm (sbs W n Q) (4 * (c + 1)) := by
          refine (sm_tail (by omega) (by omega) fun j j1 j2 => tri_z (fun i i1 i2 q => SP_zz h1 (k := j - 4 * c) (by omega) i i1 i2 (by rw [show 4 * c + (j - 4 * c) = j by omega]; exact q.1)) (by omega)).symm
        rw [e]
        exact hnext
      · rw [if_neg h1]
        by_cases h2 : k < 4
        · have jnext := jh (k + 1) (by omega) (by omega)
          have b3 := LVs_bd (W := W) (n := n) (j := 4 * c + k)
          have i1 : iand (LVs W n (4 * c + k)) (mk Q 8) = mk (fun i => vP W n (4 * c + k) i ∧ Q i) 8 := by rw [LVs_mk, iand_mk (by omega)]
          have cb := cnt_bd (P := fun i => vP W n (4 * c + k) i ∧ Q i) (n := 8) (by omega)
          have k56 := k_56 (u := cnt (fun i => vP W n (4 * c + k) i ∧ Q i) 8) (by omega)
          have f := tri_f (A := fun i => vP W n (4 * c + k) i ∧ Q i) (n := 8) (by omega)
          have e : cnt (fun i => vP W n (4 * c + k) i ∧ Q i) 8 * (cnt (fun i => vP W n (4 * c + k) i ∧ Q i) 8 - 1) / 2 = sbs W n Q (4 * c + k) := by
            unfold sbs
            rw [← f]
            omega
          rw [← Int.add_assoc, sm_s (by omega), ← e] at jnext
          rw [if_pos h2]
          simp (disch := omega) only [↓gR_D0, ↓gR_D1, ↓gR_D2, ↓gR_D3, ↓gR_D4, ↓gR_D5, ↓gR_D6, ↓gR_D7, ↓gR_D8, ↓gR_D9, ↓gR_D10, ↓gI_D11, ↓pV_D11, ↓isO_D, ↓gI_T0, ↓pV_T0, ↓gR_T1, ↓isO_T, ↓rd_T2, ↓wr_T2, ↓gI_U0, ↓pV_U0, ↓gR_U1, ↓isO_U, ↓rd_U2, ↓wr_U2, ↓gI_Ps0, ↓pV_Ps0, ↓gI_Ps1, ↓pV_Ps1, ↓gI_Ps2, ↓pV_Ps2, ↓gI_Ps3, ↓pV_Ps3, ↓gI_Ps4, ↓pV_Ps4, ↓isO_Ps, ↓gI_N0, ↓pV_N0, ↓gI_N1, ↓pV_N1, ↓gI_N2, ↓pV_N2, ↓gI_N3, ↓pV_N3, ↓gR_N4, ↓gR_N5, ↓isO_N, ↓rd_NL, ↓gI_NB0, ↓pV_NB0, ↓gR_NB1, ↓gR_NB2, ↓isO_NB, ↓rd_NC, ↓wr_NC, ↓ln_NC, ↓rd_NP, ↓wr_NP, ↓ln_NP, ↓gI_V0, ↓pV_V0, ↓gI_V1, ↓pV_V1, ↓gI_V2, ↓pV_V2, ↓gI_V3, ↓pV_V3, ↓gR_V4, ↓gR_V5, ↓isO_V, ↓rd_VL, ↓gI_VB0, ↓pV_VB0, ↓gR_VB1, ↓gR_VB2, ↓isO_VB, ↓rd_VC, ↓wr_VC, ↓ln_VC, ↓rd_VP, ↓wr_VP, ↓ln_VP, ↓rd_SL, ↓rd_KP, ↓wr_KP, ↓gI_H0, ↓pV_H0, ↓gI_H1, ↓pV_H1, ↓gR_H2, ↓isO_H, ↓rd_HP, ↓gI_B0, ↓pV_B0, ↓gI_B1, ↓pV_B1, ↓gR_B2, ↓gR_B3, ↓gR_B4, ↓gR_B5, ↓gR_B6, ↓gR_B7, ↓gR_B8, ↓isO_B, ↓rd_B301, ↓wr_B301, ↓ln_B301, ↓rd_B302, ↓wr_B302, ↓ln_B302, ↓rd_B303, ↓wr_B303, ↓ln_B303, ↓rd_B304, ↓wr_B304, ↓ln_B304, ↓rd_B305, ↓wr_B305, ↓ln_B305, ↓rd_B306, ↓wr_B306, ↓ln_B306, ↓rd_B307, ↓wr_B307, ↓ln_B307, ↓gR_Tv, ↓isO_Tv, ↓rd_Tv9, ↓wr_Tv9, ↓ln_Tv9, pV_D11, pV_T0, rd_T2, wr_T2, pV_U0, rd_U2, wr_U2, pV_Ps0, pV_Ps1, pV_Ps2, pV_Ps3, pV_Ps4, pV_N0, pV_N1, pV_N2, pV_N3, rd_NL, pV_NB0, rd_NC, wr_NC, rd_NP, wr_NP, pV_V0, pV_V1, pV_V2, pV_V3, rd_VL, pV_VB0, rd_VC, wr_VC, rd_VP, wr_VP, rd_SL, rd_KP, wr_KP, pV_H0, pV_H1, rd_HP, pV_B0, pV_B1, rd_B301, wr_B301, rd_B302, wr_B302, rd_B303, wr_B303, rd_B304, wr_B304, rd_B305, wr_B305, rd_B306, wr_B306, rd_B307, wr_B307, rd_Tv9, wr_Tv9, J_l, J_neg, J_add, J_sub, J_mul, J_lt, J_le, J_eq, J_div2, J_rem2, J_shl1, J_orp, J_or, J_and, J_shr, J_ushr, J_max, J_min, J_abs, J_b0, ↓b0_ite, ↓b0_ite2, b0_ite, bI_r, bV_r, b01_ite, ite_true, ite_false, rZ_b, K_l, J_long, M_in, C_stepMask hB, i1, C_bitK]
          exact jnext
        · rw [if_neg h2, show k = 4 by omega]
          rw [show 4 * (c + 1) = 4 * c + 4 by omega] at hnext
          exact hnext) 0 (by omega) (by omega)
    rw [Int.add_zero] at key
    exact key
  · rw [if_neg h0, show c = 1600 by omega]
    rfl
end BW
