/-! tokens are formed alike -/
section SC
variable {z y : Nat} {g g' : XH} {w w' : Int64} {s s' s0 s1 s2 m m' m0 m1 m2 : CT} {G W W' V W1 row row' r0 nm lo lg sn f : Int → Int} {wd hg mt c i j l n p v t k x xx yy N q o to : Int} {a b : Nat} {h : XH}
variable {k r u e d P V T st ln : Int} {w1 w2 : Int64}
theorem FS_ww {j' : Int} (hi0 : i ≠ 4) (hj : j' ≠ 4) : FS s (rs s 5 (ru (ru (s 5) i v) j' u)) := ⟨fun o ho => rs_ne ho, by rw [rs_same, ru_ne (fun e => hj e.symm), ru_ne (fun e => hi0 e.symm)]⟩
theorem FM_ww {j' : Int} (hi0 : i = 23 ∨ i = 24 ∨ i = 25 ∨ i = 27 ∨ i = 28) (hj : j' = 23 ∨ j' = 24 ∨ j' = 25 ∨ j' = 27 ∨ j' = 28) : FM m (rs m 0 (ru (ru (m 0) i v) j' u)) := ⟨fun o ho => rs_ne ho, fun j a b c d e => by rw [rs_same, ru_ne (by omega), ru_ne (by omega)]⟩
def kwF (P : Int) : Int := if P = 54525952 then 10 else if P = 82888832 then 5 else if P = 412554240 then 7 else if P = 647828480 then 8 else if P = 659014240 then 9 else if P = 693712896 then 6 else 4
theorem C_kindOfWord (h0 : 0 ≤ P ∧ P < 1073741824) : qPs_kindOfWord (J P) h = rI (J (kwF P)) h := by
  unfold qPs_kindOfWord kwF
  simp (disch := omega) only [J_l, J_neg, J_add, J_sub, J_mul, J_lt, J_le, J_eq, J_div2, J_rem2, J_shl1, J_orp, J_or, J_and, J_shr, J_ushr, J_max, J_min, J_abs, J_b0, ↓b0_ite, ↓b0_ite2, b0_ite, bI_r, bV_r, b01_ite, ite_true, ite_false, rZ_b, K_l, J_long, M_in]
  (repeat' split) <;> rfl
def keyP (V : Int) : Prop := V = 2590276 ∨ V = 677454 ∨ V = 402885 ∨ V = 632645 ∨ V = 20594195 ∨ V = 52
theorem M_isKey (h0 : 0 ≤ V ∧ V < 1099511627776) : qM_isKey (K V) h = rI (J (b01 (keyP V))) h := by
  unfold qM_isKey
  simp (disch := omega) only [K_l, J_l, K_cmp_eq]
  by_cases h1 : V = 2590276
  · rw [if_pos h1, b01_pos (show keyP V from Or.inl h1)]
  rw [if_neg h1]
  by_cases h2 : V = 677454
  · rw [if_pos h2, b01_pos (show keyP V from Or.inr (Or.inl h2))]
  rw [if_neg h2]
  by_cases h3 : V = 402885
  · rw [if_pos h3, b01_pos (show keyP V from Or.inr (Or.inr (Or.inl h3)))]
  rw [if_neg h3]
  by_cases h4 : V = 632645
  · rw [if_pos h4, b01_pos (show keyP V from Or.inr (Or.inr (Or.inr (Or.inl h4))))]
  rw [if_neg h4]
  by_cases h5 : V = 20594195
  · rw [if_pos h5, b01_pos (show keyP V from Or.inr (Or.inr (Or.inr (Or.inr (Or.inl h5)))))]
  rw [if_neg h5]
  by_cases h6 : V = 52
  · rw [if_pos h6, b01_pos (show keyP V from Or.inr (Or.inr (Or.inr (Or.inr (Or.inr h6)))))]
  rw [if_neg h6, b01_neg (show ¬keyP V from fun q => by
    rcases q with q | q | q | q | q | q
    · exact h1 q
    · exact h2 q
    · exact h3 q
    · exact h4 q
    · exact h5 q
    · exact h6 q)]
theorem WI_nm (hc : 1 ≤ c ∧ c ≤ 6) (h : WI c P V) : NmOk P ∧ 1 ≤ V % 32 := by
  obtain ⟨h1, h2, _⟩ := h
  obtain ⟨hv, h3⟩ := h2 hc.2
  have p0 : pw (5 * 0) = 1 := by decide
  have p1 : pw (5 * 1) = 32 := by decide
  have p2 : pw (5 * 2) = 1024 := by decide
  have p3 : pw (5 * 3) = 32768 := by decide
  have p4 : pw (5 * 4) = 1048576 := by decide
  have p5 : pw (5 * 5) = 33554432 := by decide
  have l0 : lett P 0 = P / 33554432 % 32 := by
    unfold lett
    rw [show (25 - 5 * 0 : Int) = 5 * 5 by omega, p5]
  have l1 : lett P 1 = P / 1048576 % 32 := by
    unfold lett
    rw [show (25 - 5 * 1 : Int) = 5 * 4 by omega, p4]
  have l2 : lett P 2 = P / 32768 % 32 := by
    unfold lett
    rw [show (25 - 5 * 2 : Int) = 5 * 3 by omega, p3]
  have l3 : lett P 3 = P / 1024 % 32 := by
    unfold lett
    rw [show (25 - 5 * 3 : Int) = 5 * 2 by omega, p2]
  have l4 : lett P 4 = P / 32 % 32 := by
    unfold lett
    rw [show (25 - 5 * 4 : Int) = 5 * 1 by omega, p1]
  have l5 : lett P 5 = P % 32 := by
    unfold lett
    rw [show (25 - 5 * 5 : Int) = 5 * 0 by omega, p0, Int.ediv_one]
  have v0 := hv 0 (by omega) (by omega)
  rw [p0, Int.ediv_one] at v0
  have v1 : 2 ≤ c → 1 ≤ V / 32 % 32 ∧ V / 32 % 32 ≤ 26 := fun q => by
    have := hv 1 (by omega) (by omega)
    rw [p1] at this
    exact this
  have v2 : 3 ≤ c → 1 ≤ V / 1024 % 32 ∧ V / 1024 % 32 ≤ 26 := fun q => by
    have := hv 2 (by omega) (by omega)
    rw [p2] at this
    exact this
  have v3 : 4 ≤ c → 1 ≤ V / 32768 % 32 ∧ V / 32768 % 32 ≤ 26 := fun q => by
    have := hv 3 (by omega) (by omega)
    rw [p3] at this
    exact this
  have v4 : 5 ≤ c → 1 ≤ V / 1048576 % 32 ∧ V / 1048576 % 32 ≤ 26 := fun q => by
    have := hv 4 (by omega) (by omega)
    rw [p4] at this
    exact this
  have v5 : 6 ≤ c → 1 ≤ V / 33554432 % 32 ∧ V / 33554432 % 32 ≤ 26 := fun q => by
    have := hv 5 (by omega) (by omega)
    rw [p5] at this
    exact this
  -- the letters, one by one
  have key : (0 < P) ∧ (1 ≤ lett P 0 ∧ lett P 0 ≤ 26) ∧ (lett P 1 ≤ 26 ∧ lett P 2 ≤ 26 ∧ lett P 3 ≤ 26 ∧ lett P 4 ≤ 26 ∧ lett P 5 ≤ 26) ∧ (lett P 1 = 0 → lett P 2 = 0) ∧ (lett P 2 = 0 → lett P 3 = 0) ∧ (lett P 3 = 0 → lett P 4 = 0) ∧ (lett P 4 = 0 → lett P 5 = 0) := by
    rw [l0, l1, l2, l3, l4, l5]
    rcases h3 with ⟨q1, q2, q3⟩ | ⟨q1, q2, q3⟩ | ⟨q1, q2, q3⟩ | ⟨q1, q2, q3⟩ | ⟨q1, q2, q3⟩ | ⟨q1, q2, q3⟩ | ⟨q1, q2, q3⟩
    · omega
    · clear v1 v2 v3 v4 v5
      rw [q2]; omega
    · have v1 := v1 (by omega)
      clear v2 v3 v4 v5
      rw [q2]; omega
    · have v1 := v1 (by omega)
      have v2 := v2 (by omega)
      clear v3 v4 v5
      rw [q2]; omega
    · have v1 := v1 (by omega)
      have v2 := v2 (by omega)
      have v3 := v3 (by omega)
      clear v4 v5
      rw [q2]; omega
    · have v1 := v1 (by omega)
      have v2 := v2 (by omega)
      have v3 := v3 (by omega)
      have v4 := v4 (by omega)
      clear v5
      rw [q2]; omega
    · have v1 := v1 (by omega)
      have v2 := v2 (by omega)
      have v3 := v3 (by omega)
      have v4 := v4 (by omega)
      have v5 := v5 (by omega)
      rw [q2]; omega
  obtain ⟨k1, k2, k3, k4, k5, k6, k7⟩ := key
  refine ⟨⟨⟨k1, h1.2⟩, k2.1, fun i i0 i1 => ?_, fun i i0 i1 => ?_⟩, v0.1⟩
  · rcases (show i = 0 ∨ i = 1 ∨ i = 2 ∨ i = 3 ∨ i = 4 ∨ i = 5 by omega) with rfl | rfl | rfl | rfl | rfl | rfl <;> omega
  · rcases (show i = 0 ∨ i = 1 ∨ i = 2 ∨ i = 3 ∨ i = 4 by omega) with rfl | rfl | rfl | rfl | rfl
    · intro q; omega
    · exact k4
    · exact k5
    · exact k6
    · exact k7
theorem WI_key (hc : 1 ≤ c ∧ c ≤ 6) (h : WI c P V) : (P = 54525952 ↔ V = 52) ∧ (P = 82888832 ↔ V = 2590276) ∧ (P = 412554240 ↔ V = 402885) ∧ (P = 647828480 ↔ V = 632645) ∧ (P = 659014240 ↔ V = 20594195) ∧ (P = 693712896 ↔ V = 677454) := by
  have hm := (WI_nm hc h).2
  have h3 := (h.2.1 hc.2).2
  rcases h3 with ⟨q1, q2, q3⟩ | ⟨q1, q2, q3⟩ | ⟨q1, q2, q3⟩ | ⟨q1, q2, q3⟩ | ⟨q1, q2, q3⟩ | ⟨q1, q2, q3⟩ | ⟨q1, q2, q3⟩
  · omega
  all_goals refine ⟨?_, ?_, ?_, ?_, ?_, ?_⟩ <;> omega
theorem WI_end {n0 : Int} (hc : 1 ≤ c) (h : WI c P V) : TkR (if 6 < c then 1 else kwF P) P (@ite Int (c < 9 ∧ keyP V) (Classical.propDecidable _) 2 (if c < 7 then 1 else 5)) (K V) n0 P := by
  by_cases h6 : 6 < c
  · rw [if_pos h6]
    have hk : ¬(c < 9 ∧ keyP V) := fun ⟨q, q2⟩ => by
      have := (h.2.2.1 h6 (by omega)).1
      unfold keyP at q2
      omega
    rw [if_neg hk, if_neg (by omega)]
    exact Or.inr (Or.inl ⟨rfl, rfl⟩)
  · obtain ⟨k1, k2, k3, k4, k5, k6⟩ := WI_key ⟨hc, by omega⟩ h
    have hn := (WI_nm ⟨hc, by omega⟩ h).1
    rw [if_neg h6]
    have kd : kwF P = if P = 54525952 then 10 else if P = 82888832 then 5 else if P = 412554240 then 7 else if P = 647828480 then 8 else if P = 659014240 then 9 else if P = 693712896 then 6 else 4 := rfl
    by_cases e1 : P = 54525952
    · rw [if_pos e1] at kd
      rw [if_pos ⟨by omega, Or.inr (Or.inr (Or.inr (Or.inr (Or.inr (k1.mp e1)))))⟩, kd, k1.mp e1]
      exact Or.inr (Or.inr (Or.inr (Or.inr (Or.inr ⟨by omega, rfl, rfl⟩))))
    rw [if_neg e1] at kd
    by_cases e2 : P = 82888832
    · rw [if_pos e2] at kd
      rw [if_pos ⟨by omega, Or.inl (k2.mp e2)⟩, kd, k2.mp e2]
      exact Or.inr (Or.inr (Or.inr (Or.inr (Or.inr ⟨by omega, rfl, rfl⟩))))
    rw [if_neg e2] at kd
    by_cases e3 : P = 412554240
    · rw [if_pos e3] at kd
      rw [if_pos ⟨by omega, Or.inr (Or.inr (Or.inl (k3.mp e3)))⟩, kd, k3.mp e3]
      exact Or.inr (Or.inr (Or.inr (Or.inr (Or.inr ⟨by omega, rfl, rfl⟩))))
    rw [if_neg e3] at kd
    by_cases e4 : P = 647828480
    · rw [if_pos e4] at kd
      rw [if_pos ⟨by omega, Or.inr (Or.inr (Or.inr (Or.inl (k4.mp e4))))⟩, kd, k4.mp e4]
      exact Or.inr (Or.inr (Or.inr (Or.inr (Or.inr ⟨by omega, rfl, rfl⟩))))
    rw [if_neg e4] at kd
    by_cases e5 : P = 659014240
    · rw [if_pos e5] at kd
      rw [if_pos ⟨by omega, Or.inr (Or.inr (Or.inr (Or.inr (Or.inl (k5.mp e5)))))⟩, kd, k5.mp e5]
      exact Or.inr (Or.inr (Or.inr (Or.inr (Or.inr ⟨by omega, rfl, rfl⟩))))
    rw [if_neg e5] at kd
    by_cases e6 : P = 693712896
    · rw [if_pos e6] at kd
      rw [if_pos ⟨by omega, Or.inr (Or.inl (k6.mp e6))⟩, kd, k6.mp e6]
      exact Or.inr (Or.inr (Or.inr (Or.inr (Or.inr ⟨by omega, rfl, rfl⟩))))
    rw [if_neg e6] at kd
    rw [if_neg (fun ⟨_, q⟩ => by
      unfold keyP at q
      omega), kd, if_pos (by omega)]
    exact Or.inr (Or.inr (Or.inr (Or.inr (Or.inl ⟨rfl, rfl, rfl, hn⟩))))
/-- what forming a token does on both sides -/
def TkB (z y : Nat) (g g' : XH) (w : Int64) (s m : CT) (st : Int) (X Y : XR) : Prop := ∃ s' m' w2, X = rV (hi z TD g w s') ∧ Y = rV (hi y TM g' w2 m') ∧ FS s s' ∧ FM m m' ∧ (s' 5 0 = m' 0 23 ∧ 0 ≤ m' 0 23 ∧ m' 0 23 ≤ m 0 1) ∧ (s' 5 1 = st ∧ m' 0 24 = st) ∧ TkR (s' 5 2) (s' 5 3) (m' 0 25) w2 (m' 0 27) (m' 0 28)
theorem word_end (hT : TapeI s m) (hc : 1 ≤ c ∧ c ≤ 1000) (h0 : 0 ≤ st ∧ st + c ≤ m 0 1) (hs : FS s s1) (hm : FM m m1) (a0 : s1 5 0 = st + c) (a1 : s1 5 1 = st) (b0 : m1 0 23 = st + c) (b1 : m1 0 24 = st) (a3 : s1 5 3 = P) (b3 : m1 0 28 = P) (hW : WI c P V) : TkB z y g g' w s m st (qPs_scanWord_81 (z + 5) (J c) (hi z TD g w s1)) (qM_takesLetters_109 y (hi y TM g' (K V) m1)) := by
  obtain ⟨t1, t2, t3⟩ := hT
  have hP := hW.1
  have hV : 0 ≤ V ∧ V < 1099511627776 := by
    obtain ⟨_, q1, q2, q3⟩ := hW
    by_cases h6 : c ≤ 6
    · have := (q1 h6).2
      omega
    · by_cases h8 : c ≤ 8
      · have := q2 (by omega) h8
        omega
      · have := q3 (by omega)
        omega
  have fin := WI_end (n0 := m1 0 27) hc.1 hW
  have f1 : ∀ kC, FS s (rs s1 5 (ru (s1 5) 2 kC)) := fun kC => FS.trans hs (FS_w (by decide))
  have f2 : ∀ kM, FM m (rs m1 0 (ru (m1 0) 25 kM)) := fun kM => FM.trans hm (FM_w (by omega))
  refine ⟨rs s1 5 (ru (s1 5) 2 (if 6 < c then 1 else kwF P)), rs m1 0 (ru (m1 0) 25 (@ite Int (c < 9 ∧ keyP V) (Classical.propDecidable _) 2 (if c < 7 then 1 else 5))), K V, ?_, ?_, f1 _, f2 _, ?_, ?_, ?_⟩
  · unfold qPs_scanWord_81 qPs_scanWord_99
    simp (disch := omega) only [↓gR_D0, ↓gR_D1, ↓gR_D2, ↓gR_D3, ↓gR_D4, ↓gR_D5, ↓gR_D6, ↓gR_D7, ↓gR_D8, ↓gR_D9, ↓gR_D10, ↓gI_D11, ↓pV_D11, ↓isO_D, ↓gI_T0, ↓pV_T0, ↓gR_T1, ↓isO_T, ↓rd_T2, ↓wr_T2, ↓gI_U0, ↓pV_U0, ↓gR_U1, ↓isO_U, ↓rd_U2, ↓wr_U2, ↓gI_Ps0, ↓pV_Ps0, ↓gI_Ps1, ↓pV_Ps1, ↓gI_Ps2, ↓pV_Ps2, ↓gI_Ps3, ↓pV_Ps3, ↓gI_Ps4, ↓pV_Ps4, ↓isO_Ps, ↓gI_N0, ↓pV_N0, ↓gI_N1, ↓pV_N1, ↓gI_N2, ↓pV_N2, ↓gI_N3, ↓pV_N3, ↓gR_N4, ↓gR_N5, ↓isO_N, ↓rd_NL, ↓gI_NB0, ↓pV_NB0, ↓gR_NB1, ↓gR_NB2, ↓isO_NB, ↓rd_NC, ↓wr_NC, ↓ln_NC, ↓rd_NP, ↓wr_NP, ↓ln_NP, ↓gI_V0, ↓pV_V0, ↓gI_V1, ↓pV_V1, ↓gI_V2, ↓pV_V2, ↓gI_V3, ↓pV_V3, ↓gR_V4, ↓gR_V5, ↓isO_V, ↓rd_VL, ↓gI_VB0, ↓pV_VB0, ↓gR_VB1, ↓gR_VB2, ↓isO_VB, ↓rd_VC, ↓wr_VC, ↓ln_VC, ↓rd_VP, ↓wr_VP, ↓ln_VP, ↓rd_SL, ↓rd_KP, ↓wr_KP, ↓gI_H0, ↓pV_H0, ↓gI_H1, ↓pV_H1, ↓gR_H2, ↓isO_H, ↓rd_HP, ↓gI_B0, ↓pV_B0, ↓gI_B1, ↓pV_B1, ↓gR_B2, ↓gR_B3, ↓gR_B4, ↓gR_B5, ↓gR_B6, ↓gR_B7, ↓gR_B8, ↓isO_B, ↓rd_B301, ↓wr_B301, ↓ln_B301, ↓rd_B302, ↓wr_B302, ↓ln_B302, ↓rd_B303, ↓wr_B303, ↓ln_B303, ↓rd_B304, ↓wr_B304, ↓ln_B304, ↓rd_B305, ↓wr_B305, ↓ln_B305, ↓rd_B306, ↓wr_B306, ↓ln_B306, ↓rd_B307, ↓wr_B307, ↓ln_B307, ↓gR_Tv, ↓isO_Tv, ↓rd_Tv9, ↓wr_Tv9, ↓ln_Tv9, pV_D11, pV_T0, rd_T2, wr_T2, pV_U0, rd_U2, wr_U2, pV_Ps0, pV_Ps1, pV_Ps2, pV_Ps3, pV_Ps4, pV_N0, pV_N1, pV_N2, pV_N3, rd_NL, pV_NB0, rd_NC, wr_NC, rd_NP, wr_NP, pV_V0, pV_V1, pV_V2, pV_V3, rd_VL, pV_VB0, rd_VC, wr_VC, rd_VP, wr_VP, rd_SL, rd_KP, wr_KP, pV_H0, pV_H1, rd_HP, pV_B0, pV_B1, rd_B301, wr_B301, rd_B302, wr_B302, rd_B303, wr_B303, rd_B304, wr_B304, rd_B305, wr_B305, rd_B306, wr_B306, rd_B307, wr_B307, rd_Tv9, wr_Tv9, J_l, J_neg, J_add, J_sub, J_mul, J_lt, J_le, J_eq, J_div2, J_rem2, J_shl1, J_orp, J_or, J_and, J_shr, J_ushr, J_max, J_min, J_abs, J_b0, ↓b0_ite, ↓b0_ite2, b0_ite, bI_r, bV_r, b01_ite, ite_true, ite_false, rZ_b, K_l, J_long, M_in, a3, C_kindOfWord hP]
    by_cases h6 : 6 < c
    · rw [if_pos h6, if_pos h6]
    · rw [if_neg h6, if_neg h6]
  · unfold qM_takesLetters_109 qM_takesLetters_138 qM_takesLetters_157
    simp (disch := omega) only [↓isO_M, ↓gL_H, ↓pL_H, ↓gI_M1, ↓gI_M2, ↓gI_M3, ↓gI_M4, ↓gI_M5, ↓gI_M6, ↓gI_M13, ↓gI_M22, ↓gI_M23, ↓gI_M24, ↓gI_M25, ↓gI_M27, ↓gI_M28, ↓gI_M29, ↓gI_M30, ↓gI_M31, ↓gI_M32, ↓gI_M33, ↓gI_M34, ↓gI_M35, ↓gI_M40, ↓gI_M41, ↓gI_M42, ↓gI_M43, ↓pV_M1, ↓pV_M2, ↓pV_M3, ↓pV_M4, ↓pV_M5, ↓pV_M6, ↓pV_M13, ↓pV_M22, ↓pV_M23, ↓pV_M24, ↓pV_M25, ↓pV_M27, ↓pV_M28, ↓pV_M29, ↓pV_M30, ↓pV_M31, ↓pV_M32, ↓pV_M33, ↓pV_M34, ↓pV_M35, ↓pV_M40, ↓pV_M41, ↓pV_M42, ↓pV_M43, ↓gR_M0, ↓gR_M7, ↓gR_M8, ↓gR_M9, ↓gR_M10, ↓gR_M11, ↓gR_M12, ↓gR_M14, ↓gR_M15, ↓gR_M16, ↓gR_M17, ↓gR_M18, ↓gR_M19, ↓gR_M20, ↓gR_M21, ↓gR_M36, ↓gR_M37, ↓gR_M38, ↓gR_M39, ↓rd_M1, ↓rd_M2, ↓rd_M3, ↓rd_M4, ↓rd_M5, ↓rd_M6, ↓rd_M7, ↓rd_M8, ↓rd_M9, ↓rd_M10, ↓rd_M11, ↓rd_M12, ↓rd_M13, ↓rd_M14, ↓rd_M15, ↓rd_M16, ↓rd_M17, ↓rd_M18, ↓rd_M19, ↓wr_M1, ↓wr_M2, ↓wr_M3, ↓wr_M4, ↓wr_M5, ↓wr_M6, ↓wr_M7, ↓wr_M8, ↓wr_M9, ↓wr_M10, ↓wr_M11, ↓wr_M12, ↓wr_M13, ↓wr_M14, ↓wr_M15, ↓wr_M16, ↓wr_M17, ↓wr_M18, ↓wr_M19, pL_H, pV_M1, pV_M2, pV_M3, pV_M4, pV_M5, pV_M6, pV_M13, pV_M22, pV_M23, pV_M24, pV_M25, pV_M27, pV_M28, pV_M29, pV_M30, pV_M31, pV_M32, pV_M33, pV_M34, pV_M35, pV_M40, pV_M41, pV_M42, pV_M43, rd_M1, rd_M2, rd_M3, rd_M4, rd_M5, rd_M6, rd_M7, rd_M8, rd_M9, rd_M10, rd_M11, rd_M12, rd_M13, rd_M14, rd_M15, rd_M16, rd_M17, rd_M18, rd_M19, wr_M1, wr_M2, wr_M3, wr_M4, wr_M5, wr_M6, wr_M7, wr_M8, wr_M9, wr_M10, wr_M11, wr_M12, wr_M13, wr_M14, wr_M15, wr_M16, wr_M17, wr_M18, wr_M19, J_l, J_neg, J_add, J_sub, J_mul, J_lt, J_le, J_eq, J_div2, J_rem2, J_shl1, J_orp, J_or, J_and, J_shr, J_ushr, J_max, J_min, J_abs, J_b0, ↓b0_ite, ↓b0_ite2, b0_ite, bI_r, bV_r, b01_ite, ite_true, ite_false, rZ_b, K_l, J_long, M_in, b0, b1, M_isKey hV, show st + c - st = c by omega]
    by_cases h9 : c < 9
    · rw [if_pos h9]
      by_cases hk : keyP V
      · rw [if_pos hk, if_pos ⟨h9, hk⟩]
      · rw [if_neg hk, if_neg (show ¬(c < 9 ∧ keyP V) from fun q => hk q.2)]
        by_cases h7 : c < 7
        · rw [if_pos h7, if_pos h7]
        · rw [if_neg h7, if_neg h7]
    · rw [if_neg h9, if_neg (show ¬(c < 9 ∧ keyP V) from fun q => h9 q.1), if_neg (show ¬c < 7 by omega), if_neg (show ¬c < 7 by omega)]
  · rw [rs_same, rs_same, ru_ne (by decide), ru_ne (by decide), a0, b0]
    omega
  · rw [rs_same, rs_same, ru_ne (by decide), ru_ne (by decide), a1, b1]
    exact ⟨rfl, rfl⟩
  · rw [rs_same, rs_same, ru_same, ru_same, ru_ne (by decide), ru_ne (by decide), ru_ne (by decide), a3, b3]
    exact fin
theorem word_both (hT : TapeI s m) (h0 : 0 ≤ st ∧ st < m 0 1) (hf : 97 ≤ m 1 st ∧ m 1 st ≤ 122) (a0 : s 5 0 = st) (a1 : s 5 1 = st) (b0 : m 0 23 = st) (b1 : m 0 24 = st) : TkB z y g g' w s m st (qPs_scanWord (z + 5) (z + 1) (hi z TD g w s)) (qM_takesLetters y (hi y TM g' w' m)) := by
  obtain ⟨t1, t2, t3⟩ := id hT
  unfold qPs_scanWord qM_takesLetters
  simp (disch := omega) only [↓gR_D0, ↓gR_D1, ↓gR_D2, ↓gR_D3, ↓gR_D4, ↓gR_D5, ↓gR_D6, ↓gR_D7, ↓gR_D8, ↓gR_D9, ↓gR_D10, ↓gI_D11, ↓pV_D11, ↓isO_D, ↓gI_T0, ↓pV_T0, ↓gR_T1, ↓isO_T, ↓rd_T2, ↓wr_T2, ↓gI_U0, ↓pV_U0, ↓gR_U1, ↓isO_U, ↓rd_U2, ↓wr_U2, ↓gI_Ps0, ↓pV_Ps0, ↓gI_Ps1, ↓pV_Ps1, ↓gI_Ps2, ↓pV_Ps2, ↓gI_Ps3, ↓pV_Ps3, ↓gI_Ps4, ↓pV_Ps4, ↓isO_Ps, ↓gI_N0, ↓pV_N0, ↓gI_N1, ↓pV_N1, ↓gI_N2, ↓pV_N2, ↓gI_N3, ↓pV_N3, ↓gR_N4, ↓gR_N5, ↓isO_N, ↓rd_NL, ↓gI_NB0, ↓pV_NB0, ↓gR_NB1, ↓gR_NB2, ↓isO_NB, ↓rd_NC, ↓wr_NC, ↓ln_NC, ↓rd_NP, ↓wr_NP, ↓ln_NP, ↓gI_V0, ↓pV_V0, ↓gI_V1, ↓pV_V1, ↓gI_V2, ↓pV_V2, ↓gI_V3, ↓pV_V3, ↓gR_V4, ↓gR_V5, ↓isO_V, ↓rd_VL, ↓gI_VB0, ↓pV_VB0, ↓gR_VB1, ↓gR_VB2, ↓isO_VB, ↓rd_VC, ↓wr_VC, ↓ln_VC, ↓rd_VP, ↓wr_VP, ↓ln_VP, ↓rd_SL, ↓rd_KP, ↓wr_KP, ↓gI_H0, ↓pV_H0, ↓gI_H1, ↓pV_H1, ↓gR_H2, ↓isO_H, ↓rd_HP, ↓gI_B0, ↓pV_B0, ↓gI_B1, ↓pV_B1, ↓gR_B2, ↓gR_B3, ↓gR_B4, ↓gR_B5, ↓gR_B6, ↓gR_B7, ↓gR_B8, ↓isO_B, ↓rd_B301, ↓wr_B301, ↓ln_B301, ↓rd_B302, ↓wr_B302, ↓ln_B302, ↓rd_B303, ↓wr_B303, ↓ln_B303, ↓rd_B304, ↓wr_B304, ↓ln_B304, ↓rd_B305, ↓wr_B305, ↓ln_B305, ↓rd_B306, ↓wr_B306, ↓ln_B306, ↓rd_B307, ↓wr_B307, ↓ln_B307, ↓gR_Tv, ↓isO_Tv, ↓rd_Tv9, ↓wr_Tv9, ↓ln_Tv9, pV_D11, pV_T0, rd_T2, wr_T2, pV_U0, rd_U2, wr_U2, pV_Ps0, pV_Ps1, pV_Ps2, pV_Ps3, pV_Ps4, pV_N0, pV_N1, pV_N2, pV_N3, rd_NL, pV_NB0, rd_NC, wr_NC, rd_NP, wr_NP, pV_V0, pV_V1, pV_V2, pV_V3, rd_VL, pV_VB0, rd_VC, wr_VC, rd_VP, wr_VP, rd_SL, rd_KP, wr_KP, pV_H0, pV_H1, rd_HP, pV_B0, pV_B1, rd_B301, wr_B301, rd_B302, wr_B302, rd_B303, wr_B303, rd_B304, wr_B304, rd_B305, wr_B305, rd_B306, wr_B306, rd_B307, wr_B307, rd_Tv9, wr_Tv9, ↓isO_M, ↓gL_H, ↓pL_H, ↓gI_M1, ↓gI_M2, ↓gI_M3, ↓gI_M4, ↓gI_M5, ↓gI_M6, ↓gI_M13, ↓gI_M22, ↓gI_M23, ↓gI_M24, ↓gI_M25, ↓gI_M27, ↓gI_M28, ↓gI_M29, ↓gI_M30, ↓gI_M31, ↓gI_M32, ↓gI_M33, ↓gI_M34, ↓gI_M35, ↓gI_M40, ↓gI_M41, ↓gI_M42, ↓gI_M43, ↓pV_M1, ↓pV_M2, ↓pV_M3, ↓pV_M4, ↓pV_M5, ↓pV_M6, ↓pV_M13, ↓pV_M22, ↓pV_M23, ↓pV_M24, ↓pV_M25, ↓pV_M27, ↓pV_M28, ↓pV_M29, ↓pV_M30, ↓pV_M31, ↓pV_M32, ↓pV_M33, ↓pV_M34, ↓pV_M35, ↓pV_M40, ↓pV_M41, ↓pV_M42, ↓pV_M43, ↓gR_M0, ↓gR_M7, ↓gR_M8, ↓gR_M9, ↓gR_M10, ↓gR_M11, ↓gR_M12, ↓gR_M14, ↓gR_M15, ↓gR_M16, ↓gR_M17, ↓gR_M18, ↓gR_M19, ↓gR_M20, ↓gR_M21, ↓gR_M36, ↓gR_M37, ↓gR_M38, ↓gR_M39, ↓rd_M1, ↓rd_M2, ↓rd_M3, ↓rd_M4, ↓rd_M5, ↓rd_M6, ↓rd_M7, ↓rd_M8, ↓rd_M9, ↓rd_M10, ↓rd_M11, ↓rd_M12, ↓rd_M13, ↓rd_M14, ↓rd_M15, ↓rd_M16, ↓rd_M17, ↓rd_M18, ↓rd_M19, ↓wr_M1, ↓wr_M2, ↓wr_M3, ↓wr_M4, ↓wr_M5, ↓wr_M6, ↓wr_M7, ↓wr_M8, ↓wr_M9, ↓wr_M10, ↓wr_M11, ↓wr_M12, ↓wr_M13, ↓wr_M14, ↓wr_M15, ↓wr_M16, ↓wr_M17, ↓wr_M18, ↓wr_M19, pL_H, pV_M1, pV_M2, pV_M3, pV_M4, pV_M5, pV_M6, pV_M13, pV_M22, pV_M23, pV_M24, pV_M25, pV_M27, pV_M28, pV_M29, pV_M30, pV_M31, pV_M32, pV_M33, pV_M34, pV_M35, pV_M40, pV_M41, pV_M42, pV_M43, rd_M1, rd_M2, rd_M3, rd_M4, rd_M5, rd_M6, rd_M7, rd_M8, rd_M9, rd_M10, rd_M11, rd_M12, rd_M13, rd_M14, rd_M15, rd_M16, rd_M17, rd_M18, rd_M19, wr_M1, wr_M2, wr_M3, wr_M4, wr_M5, wr_M6, wr_M7, wr_M8, wr_M9, wr_M10, wr_M11, wr_M12, wr_M13, wr_M14, wr_M15, wr_M16, wr_M17, wr_M18, wr_M19, J_l, J_neg, J_add, J_sub, J_mul, J_lt, J_le, J_eq, J_div2, J_rem2, J_shl1, J_orp, J_or, J_and, J_shr, J_ushr, J_max, J_min, J_abs, J_b0, ↓b0_ite, ↓b0_ite2, b0_ite, bI_r, bV_r, b01_ite, ite_true, ite_false, rZ_b, K_l, J_long, M_in]
  refine loop2 (S := Int × CT × CT × Int × Int) (fun N q => qPs_scanWord_7 N (z + 5) (z + 1) (J q.1) (hi z TD g w q.2.1)) (fun N q => qM_takesLetters_10 N y (hi y TM g' (K q.2.2.2.2) q.2.2.1)) (fun X Y => TkB z y g g' w s m st X Y) (fun q => (0 ≤ q.1 ∧ st + q.1 ≤ m 0 1) ∧ FS s q.2.1 ∧ FM m q.2.2.1 ∧ (q.2.1 5 0 = st + q.1 ∧ q.2.1 5 1 = st ∧ q.2.2.1 0 23 = st + q.1 ∧ q.2.2.1 0 24 = st) ∧ (q.2.1 5 3 = q.2.2.2.1 ∧ q.2.2.1 0 28 = q.2.2.2.1) ∧ WI q.1 q.2.2.2.1 q.2.2.2.2) (fun q => m 0 1 - st - q.1) (by intro q hq; omega) (fun N q hq ih => ?_) (0, rs s 5 (ru (s 5) 3 0), rs m 0 (ru (m 0) 28 0), 0, 0) ⟨by show (0 : Int) ≤ 0 ∧ st + 0 ≤ m 0 1; omega, FS_w (by decide), FM_w (by omega), ⟨by show rs s 5 (ru (s 5) 3 0) 5 0 = st + 0; rw [rs_same, ru_ne (by decide), a0]; omega, by show rs s 5 (ru (s 5) 3 0) 5 1 = st; rw [rs_same, ru_ne (by decide), a1], by show rs m 0 (ru (m 0) 28 0) 0 23 = st + 0; rw [rs_same, ru_ne (by decide), b0]; omega, by show rs m 0 (ru (m 0) 28 0) 0 24 = st; rw [rs_same, ru_ne (by decide), b1]⟩, ⟨by show rs s 5 (ru (s 5) 3 0) 5 3 = 0; rw [rs_same, ru_same], by show rs m 0 (ru (m 0) 28 0) 0 28 = 0; rw [rs_same, ru_same]⟩, WI_0⟩ (by show m 0 1 - st - 0 < 20000; omega)
  obtain ⟨c, s1, m1, P, V⟩ := q
  obtain ⟨hc, hs, hm, ⟨c0, c1, d0, d1⟩, ⟨c3, d3⟩, hW⟩ := hq
  change 0 ≤ c ∧ st + c ≤ m 0 1 at hc
  change FS s s1 at hs
  change FM m m1 at hm
  change s1 5 0 = st + c at c0
  change s1 5 1 = st at c1
  change m1 0 23 = st + c at d0
  change m1 0 24 = st at d1
  change s1 5 3 = P at c3
  change m1 0 28 = P at d3
  change WI c P V at hW
  have hT1 := TapeI_f hT hs hm
  have e1 : m1 0 1 = m 0 1 := hm.2 1 (by decide) (by decide) (by decide) (by decide) (by decide)
  have e2 : m1 1 = m 1 := hm.1 1 (by decide)
  have t1' : s1 1 0 = m 0 1 := by rw [← e1]; exact hT1.1
  have hP := hW.1
  have fin := fun (hc1 : 1 ≤ c) => word_end (z := z) (y := y) (g := g) (g' := g') (w := w) hT ⟨hc1, by omega⟩ ⟨h0.1, hc.2⟩ hs hm c0 c1 d0 d1 c3 d3 hW
  show TkB z y g g' w s m st (qPs_scanWord_7_b (qPs_scanWord_7 N) (z + 5) (z + 1) (J c) (hi z TD g w s1)) (qM_takesLetters_10_b (qM_takesLetters_10 N) y (hi y TM g' (K V) m1))
  have by1 := C_byteAt (z := z) (g := g) (w := w) (p := st + c) hT1 (by omega)
  have by2 := M_isByte (y := y) (g := g') (w := K V) (p := st + c) (i := 97) (j := 122) hT1 ⟨d0, by omega, by omega⟩ (by omega) (by omega)
  rw [e1, e2] at by1 by2
  unfold qPs_scanWord_7_b qM_takesLetters_10_b
  by_cases hl : st + c < m 0 1
  · have bt := (t3 (st + c) (by omega) hl).2
    rw [if_pos hl] at by1
    simp (disch := omega) only [↓gR_D0, ↓gR_D1, ↓gR_D2, ↓gR_D3, ↓gR_D4, ↓gR_D5, ↓gR_D6, ↓gR_D7, ↓gR_D8, ↓gR_D9, ↓gR_D10, ↓gI_D11, ↓pV_D11, ↓isO_D, ↓gI_T0, ↓pV_T0, ↓gR_T1, ↓isO_T, ↓rd_T2, ↓wr_T2, ↓gI_U0, ↓pV_U0, ↓gR_U1, ↓isO_U, ↓rd_U2, ↓wr_U2, ↓gI_Ps0, ↓pV_Ps0, ↓gI_Ps1, ↓pV_Ps1, ↓gI_Ps2, ↓pV_Ps2, ↓gI_Ps3, ↓pV_Ps3, ↓gI_Ps4, ↓pV_Ps4, ↓isO_Ps, ↓gI_N0, ↓pV_N0, ↓gI_N1, ↓pV_N1, ↓gI_N2, ↓pV_N2, ↓gI_N3, ↓pV_N3, ↓gR_N4, ↓gR_N5, ↓isO_N, ↓rd_NL, ↓gI_NB0, ↓pV_NB0, ↓gR_NB1, ↓gR_NB2, ↓isO_NB, ↓rd_NC, ↓wr_NC, ↓ln_NC, ↓rd_NP, ↓wr_NP, ↓ln_NP, ↓gI_V0, ↓pV_V0, ↓gI_V1, ↓pV_V1, ↓gI_V2, ↓pV_V2, ↓gI_V3, ↓pV_V3, ↓gR_V4, ↓gR_V5, ↓isO_V, ↓rd_VL, ↓gI_VB0, ↓pV_VB0, ↓gR_VB1, ↓gR_VB2, ↓isO_VB, ↓rd_VC, ↓wr_VC, ↓ln_VC, ↓rd_VP, ↓wr_VP, ↓ln_VP, ↓rd_SL, ↓rd_KP, ↓wr_KP, ↓gI_H0, ↓pV_H0, ↓gI_H1, ↓pV_H1, ↓gR_H2, ↓isO_H, ↓rd_HP, ↓gI_B0, ↓pV_B0, ↓gI_B1, ↓pV_B1, ↓gR_B2, ↓gR_B3, ↓gR_B4, ↓gR_B5, ↓gR_B6, ↓gR_B7, ↓gR_B8, ↓isO_B, ↓rd_B301, ↓wr_B301, ↓ln_B301, ↓rd_B302, ↓wr_B302, ↓ln_B302, ↓rd_B303, ↓wr_B303, ↓ln_B303, ↓rd_B304, ↓wr_B304, ↓ln_B304, ↓rd_B305, ↓wr_B305, ↓ln_B305, ↓rd_B306, ↓wr_B306, ↓ln_B306, ↓rd_B307, ↓wr_B307, ↓ln_B307, ↓gR_Tv, ↓isO_Tv, ↓rd_Tv9, ↓wr_Tv9, ↓ln_Tv9, pV_D11, pV_T0, rd_T2, wr_T2, pV_U0, rd_U2, wr_U2, pV_Ps0, pV_Ps1, pV_Ps2, pV_Ps3, pV_Ps4, pV_N0, pV_N1, pV_N2, pV_N3, rd_NL, pV_NB0, rd_NC, wr_NC, rd_NP, wr_NP, pV_V0, pV_V1, pV_V2, pV_V3, rd_VL, pV_VB0, rd_VC, wr_VC, rd_VP, wr_VP, rd_SL, rd_KP, wr_KP, pV_H0, pV_H1, rd_HP, pV_B0, pV_B1, rd_B301, wr_B301, rd_B302, wr_B302, rd_B303, wr_B303, rd_B304, wr_B304, rd_B305, wr_B305, rd_B306, wr_B306, rd_B307, wr_B307, rd_Tv9, wr_Tv9, ↓isO_M, ↓gL_H, ↓pL_H, ↓gI_M1, ↓gI_M2, ↓gI_M3, ↓gI_M4, ↓gI_M5, ↓gI_M6, ↓gI_M13, ↓gI_M22, ↓gI_M23, ↓gI_M24, ↓gI_M25, ↓gI_M27, ↓gI_M28, ↓gI_M29, ↓gI_M30, ↓gI_M31, ↓gI_M32, ↓gI_M33, ↓gI_M34, ↓gI_M35, ↓gI_M40, ↓gI_M41, ↓gI_M42, ↓gI_M43, ↓pV_M1, ↓pV_M2, ↓pV_M3, ↓pV_M4, ↓pV_M5, ↓pV_M6, ↓pV_M13, ↓pV_M22, ↓pV_M23, ↓pV_M24, ↓pV_M25, ↓pV_M27, ↓pV_M28, ↓pV_M29, ↓pV_M30, ↓pV_M31, ↓pV_M32, ↓pV_M33, ↓pV_M34, ↓pV_M35, ↓pV_M40, ↓pV_M41, ↓pV_M42, ↓pV_M43, ↓gR_M0, ↓gR_M7, ↓gR_M8, ↓gR_M9, ↓gR_M10, ↓gR_M11, ↓gR_M12, ↓gR_M14, ↓gR_M15, ↓gR_M16, ↓gR_M17, ↓gR_M18, ↓gR_M19, ↓gR_M20, ↓gR_M21, ↓gR_M36, ↓gR_M37, ↓gR_M38, ↓gR_M39, ↓rd_M1, ↓rd_M2, ↓rd_M3, ↓rd_M4, ↓rd_M5, ↓rd_M6, ↓rd_M7, ↓rd_M8, ↓rd_M9, ↓rd_M10, ↓rd_M11, ↓rd_M12, ↓rd_M13, ↓rd_M14, ↓rd_M15, ↓rd_M16, ↓rd_M17, ↓rd_M18, ↓rd_M19, ↓wr_M1, ↓wr_M2, ↓wr_M3, ↓wr_M4, ↓wr_M5, ↓wr_M6, ↓wr_M7, ↓wr_M8, ↓wr_M9, ↓wr_M10, ↓wr_M11, ↓wr_M12, ↓wr_M13, ↓wr_M14, ↓wr_M15, ↓wr_M16, ↓wr_M17, ↓wr_M18, ↓wr_M19, pL_H, pV_M1, pV_M2, pV_M3, pV_M4, pV_M5, pV_M6, pV_M13, pV_M22, pV_M23, pV_M24, pV_M25, pV_M27, pV_M28, pV_M29, pV_M30, pV_M31, pV_M32, pV_M33, pV_M34, pV_M35, pV_M40, pV_M41, pV_M42, pV_M43, rd_M1, rd_M2, rd_M3, rd_M4, rd_M5, rd_M6, rd_M7, rd_M8, rd_M9, rd_M10, rd_M11, rd_M12, rd_M13, rd_M14, rd_M15, rd_M16, rd_M17, rd_M18, rd_M19, wr_M1, wr_M2, wr_M3, wr_M4, wr_M5, wr_M6, wr_M7, wr_M8, wr_M9, wr_M10, wr_M11, wr_M12, wr_M13, wr_M14, wr_M15, wr_M16, wr_M17, wr_M18, wr_M19, J_l, J_neg, J_add, J_sub, J_mul, J_lt, J_le, J_eq, J_div2, J_rem2, J_shl1, J_orp, J_or, J_and, J_shr, J_ushr, J_max, J_min, J_abs, J_b0, ↓b0_ite, ↓b0_ite2, b0_ite, bI_r, bV_r, b01_ite, ite_true, ite_false, rZ_b, K_l, J_long, M_in, c0, t1', by1, by2, C_isLetter bt]
    rw [if_pos hl]
    by_cases hL : 97 ≤ m 1 (st + c) ∧ m 1 (st + c) ≤ 122
    · rw [if_pos hL, if_pos (show st + c < m 0 1 ∧ 97 ≤ m 1 (st + c) ∧ m 1 (st + c) ≤ 122 from ⟨hl, hL⟩)]
      have hd : 1 ≤ m 1 (st + c) - 96 ∧ m 1 (st + c) - 96 ≤ 26 := by omega
      have ub1 : ub (m 1 (st + c)) = m 1 (st + c) := if_neg (by omega)
      have hWs := WI_s hc.1 hW hd
      have rd1 : m1 1 (st + c) = m 1 (st + c) := by rw [e2]
      unfold qPs_scanWord_65 qM_takesLetters_67 qM_takesLetters_93
      by_cases h6 : c < 6
      · have sj := shl_J ⟨(m 1 (st + c) - 96).toNat, by omega⟩ ⟨c.toNat, by omega⟩
        rw [show (((m 1 (st + c) - 96).toNat : Nat) : Int) = m 1 (st + c) - 96 by omega, show ((c.toNat : Nat) : Int) = c by omega] at sj
        have sj2 : jshl (J (m 1 (st + c) - 97 + 1)) (J (25 - 5 * c)) = J (lsh c (m 1 (st + c) - 96)) := by
          rw [show m 1 (st + c) - 97 + 1 = m 1 (st + c) - 96 by omega]
          exact sj
        have lb : 0 ≤ lsh c (m 1 (st + c) - 96) := by
          unfold lsh
          (repeat' split) <;> omega
        have ob := WI_or ⟨hc.1, h6⟩ hW hd
        rw [if_pos h6, if_pos (show c < 8 by omega)] at hWs
        unfold qD_shiftOf
        simp (disch := omega) only [↓gR_D0, ↓gR_D1, ↓gR_D2, ↓gR_D3, ↓gR_D4, ↓gR_D5, ↓gR_D6, ↓gR_D7, ↓gR_D8, ↓gR_D9, ↓gR_D10, ↓gI_D11, ↓pV_D11, ↓isO_D, ↓gI_T0, ↓pV_T0, ↓gR_T1, ↓isO_T, ↓rd_T2, ↓wr_T2, ↓gI_U0, ↓pV_U0, ↓gR_U1, ↓isO_U, ↓rd_U2, ↓wr_U2, ↓gI_Ps0, ↓pV_Ps0, ↓gI_Ps1, ↓pV_Ps1, ↓gI_Ps2, ↓pV_Ps2, ↓gI_Ps3, ↓pV_Ps3, ↓gI_Ps4, ↓pV_Ps4, ↓isO_Ps, ↓gI_N0, ↓pV_N0, ↓gI_N1, ↓pV_N1, ↓gI_N2, ↓pV_N2, ↓gI_N3, ↓pV_N3, ↓gR_N4, ↓gR_N5, ↓isO_N, ↓rd_NL, ↓gI_NB0, ↓pV_NB0, ↓gR_NB1, ↓gR_NB2, ↓isO_NB, ↓rd_NC, ↓wr_NC, ↓ln_NC, ↓rd_NP, ↓wr_NP, ↓ln_NP, ↓gI_V0, ↓pV_V0, ↓gI_V1, ↓pV_V1, ↓gI_V2, ↓pV_V2, ↓gI_V3, ↓pV_V3, ↓gR_V4, ↓gR_V5, ↓isO_V, ↓rd_VL, ↓gI_VB0, ↓pV_VB0, ↓gR_VB1, ↓gR_VB2, ↓isO_VB, ↓rd_VC, ↓wr_VC, ↓ln_VC, ↓rd_VP, ↓wr_VP, ↓ln_VP, ↓rd_SL, ↓rd_KP, ↓wr_KP, ↓gI_H0, ↓pV_H0, ↓gI_H1, ↓pV_H1, ↓gR_H2, ↓isO_H, ↓rd_HP, ↓gI_B0, ↓pV_B0, ↓gI_B1, ↓pV_B1, ↓gR_B2, ↓gR_B3, ↓gR_B4, ↓gR_B5, ↓gR_B6, ↓gR_B7, ↓gR_B8, ↓isO_B, ↓rd_B301, ↓wr_B301, ↓ln_B301, ↓rd_B302, ↓wr_B302, ↓ln_B302, ↓rd_B303, ↓wr_B303, ↓ln_B303, ↓rd_B304, ↓wr_B304, ↓ln_B304, ↓rd_B305, ↓wr_B305, ↓ln_B305, ↓rd_B306, ↓wr_B306, ↓ln_B306, ↓rd_B307, ↓wr_B307, ↓ln_B307, ↓gR_Tv, ↓isO_Tv, ↓rd_Tv9, ↓wr_Tv9, ↓ln_Tv9, pV_D11, pV_T0, rd_T2, wr_T2, pV_U0, rd_U2, wr_U2, pV_Ps0, pV_Ps1, pV_Ps2, pV_Ps3, pV_Ps4, pV_N0, pV_N1, pV_N2, pV_N3, rd_NL, pV_NB0, rd_NC, wr_NC, rd_NP, wr_NP, pV_V0, pV_V1, pV_V2, pV_V3, rd_VL, pV_VB0, rd_VC, wr_VC, rd_VP, wr_VP, rd_SL, rd_KP, wr_KP, pV_H0, pV_H1, rd_HP, pV_B0, pV_B1, rd_B301, wr_B301, rd_B302, wr_B302, rd_B303, wr_B303, rd_B304, wr_B304, rd_B305, wr_B305, rd_B306, wr_B306, rd_B307, wr_B307, rd_Tv9, wr_Tv9, ↓isO_M, ↓gL_H, ↓pL_H, ↓gI_M1, ↓gI_M2, ↓gI_M3, ↓gI_M4, ↓gI_M5, ↓gI_M6, ↓gI_M13, ↓gI_M22, ↓gI_M23, ↓gI_M24, ↓gI_M25, ↓gI_M27, ↓gI_M28, ↓gI_M29, ↓gI_M30, ↓gI_M31, ↓gI_M32, ↓gI_M33, ↓gI_M34, ↓gI_M35, ↓gI_M40, ↓gI_M41, ↓gI_M42, ↓gI_M43, ↓pV_M1, ↓pV_M2, ↓pV_M3, ↓pV_M4, ↓pV_M5, ↓pV_M6, ↓pV_M13, ↓pV_M22, ↓pV_M23, ↓pV_M24, ↓pV_M25, ↓pV_M27, ↓pV_M28, ↓pV_M29, ↓pV_M30, ↓pV_M31, ↓pV_M32, ↓pV_M33, ↓pV_M34, ↓pV_M35, ↓pV_M40, ↓pV_M41, ↓pV_M42, ↓pV_M43, ↓gR_M0, ↓gR_M7, ↓gR_M8, ↓gR_M9, ↓gR_M10, ↓gR_M11, ↓gR_M12, ↓gR_M14, ↓gR_M15, ↓gR_M16, ↓gR_M17, ↓gR_M18, ↓gR_M19, ↓gR_M20, ↓gR_M21, ↓gR_M36, ↓gR_M37, ↓gR_M38, ↓gR_M39, ↓rd_M1, ↓rd_M2, ↓rd_M3, ↓rd_M4, ↓rd_M5, ↓rd_M6, ↓rd_M7, ↓rd_M8, ↓rd_M9, ↓rd_M10, ↓rd_M11, ↓rd_M12, ↓rd_M13, ↓rd_M14, ↓rd_M15, ↓rd_M16, ↓rd_M17, ↓rd_M18, ↓rd_M19, ↓wr_M1, ↓wr_M2, ↓wr_M3, ↓wr_M4, ↓wr_M5, ↓wr_M6, ↓wr_M7, ↓wr_M8, ↓wr_M9, ↓wr_M10, ↓wr_M11, ↓wr_M12, ↓wr_M13, ↓wr_M14, ↓wr_M15, ↓wr_M16, ↓wr_M17, ↓wr_M18, ↓wr_M19, pL_H, pV_M1, pV_M2, pV_M3, pV_M4, pV_M5, pV_M6, pV_M13, pV_M22, pV_M23, pV_M24, pV_M25, pV_M27, pV_M28, pV_M29, pV_M30, pV_M31, pV_M32, pV_M33, pV_M34, pV_M35, pV_M40, pV_M41, pV_M42, pV_M43, rd_M1, rd_M2, rd_M3, rd_M4, rd_M5, rd_M6, rd_M7, rd_M8, rd_M9, rd_M10, rd_M11, rd_M12, rd_M13, rd_M14, rd_M15, rd_M16, rd_M17, rd_M18, rd_M19, wr_M1, wr_M2, wr_M3, wr_M4, wr_M5, wr_M6, wr_M7, wr_M8, wr_M9, wr_M10, wr_M11, wr_M12, wr_M13, wr_M14, wr_M15, wr_M16, wr_M17, wr_M18, wr_M19, J_l, J_neg, J_add, J_sub, J_mul, J_lt, J_le, J_eq, J_div2, J_rem2, J_shl1, J_orp, J_or, J_and, J_shr, J_ushr, J_max, J_min, J_abs, J_b0, ↓b0_ite, ↓b0_ite2, b0_ite, bI_r, bV_r, b01_ite, ite_true, ite_false, rZ_b, K_l, J_long, M_in, rs_same, rs_ne, rs_rs, ru_same, ru_ne, ne_eq, c0, c3, d0, d1, d3, by1, ub1, rd1, sj, sj2, ob, show st + c - st = c by omega, K_mul, K_add]
        rw [if_pos h6, if_pos h6, if_pos (show c < 8 by omega)]
        refine ih (c + 1, rs s1 5 (ru (ru (s1 5) 3 (P + lsh c (m 1 (st + c) - 96))) 0 (st + c + 1)), rs m1 0 (ru (ru (m1 0) 28 (P + lsh c (m 1 (st + c) - 96))) 23 (st + c + 1)), P + lsh c (m 1 (st + c) - 96), 32 * V + (m 1 (st + c) - 96)) ⟨by show 0 ≤ c + 1 ∧ st + (c + 1) ≤ m 0 1; omega, FS.trans hs (FS_ww (by decide) (by decide)), FM.trans hm (FM_ww (by omega) (by omega)), ⟨?_, ?_, ?_, ?_⟩, ⟨?_, ?_⟩, hWs⟩ (by show m 0 1 - st - (c + 1) < m 0 1 - st - c; omega)
        · show rs s1 5 (ru (ru (s1 5) 3 (P + lsh c (m 1 (st + c) - 96))) 0 (st + c + 1)) 5 0 = st + (c + 1)
          rw [rs_same, ru_same]; omega
        · show rs s1 5 (ru (ru (s1 5) 3 (P + lsh c (m 1 (st + c) - 96))) 0 (st + c + 1)) 5 1 = st
          rw [rs_same, ru_ne (by decide), ru_ne (by decide), c1]
        · show rs m1 0 (ru (ru (m1 0) 28 (P + lsh c (m 1 (st + c) - 96))) 23 (st + c + 1)) 0 23 = st + (c + 1)
          rw [rs_same, ru_same]; omega
        · show rs m1 0 (ru (ru (m1 0) 28 (P + lsh c (m 1 (st + c) - 96))) 23 (st + c + 1)) 0 24 = st
          rw [rs_same, ru_ne (by decide), ru_ne (by decide), d1]
        · show rs s1 5 (ru (ru (s1 5) 3 (P + lsh c (m 1 (st + c) - 96))) 0 (st + c + 1)) 5 3 = P + lsh c (m 1 (st + c) - 96)
          rw [rs_same, ru_ne (by decide), ru_same]
        · show rs m1 0 (ru (ru (m1 0) 28 (P + lsh c (m 1 (st + c) - 96))) 23 (st + c + 1)) 0 28 = P + lsh c (m 1 (st + c) - 96)
          rw [rs_same, ru_ne (by decide), ru_same]
      · rw [if_neg h6] at hWs
        have go : ∀ V', WI (c + 1) P V' → TkB z y g g' w s m st (qPs_scanWord_7 N (z + 5) (z + 1) (J (c + 1)) (hi z TD g w (rs s1 5 (ru (s1 5) 0 (st + c + 1))))) (qM_takesLetters_10 N y (hi y TM g' (K V') (rs m1 0 (ru (ru (m1 0) 28 P) 23 (st + c + 1))))) := fun V' hW' => by
          refine ih (c + 1, rs s1 5 (ru (s1 5) 0 (st + c + 1)), rs m1 0 (ru (ru (m1 0) 28 P) 23 (st + c + 1)), P, V') ⟨by show 0 ≤ c + 1 ∧ st + (c + 1) ≤ m 0 1; omega, FS.trans hs (FS_w (by decide)), FM.trans hm (FM_ww (by omega) (by omega)), ⟨?_, ?_, ?_, ?_⟩, ⟨?_, ?_⟩, hW'⟩ (by show m 0 1 - st - (c + 1) < m 0 1 - st - c; omega)
          · show rs s1 5 (ru (s1 5) 0 (st + c + 1)) 5 0 = st + (c + 1)
            rw [rs_same, ru_same]; omega
          · show rs s1 5 (ru (s1 5) 0 (st + c + 1)) 5 1 = st
            rw [rs_same, ru_ne (by decide), c1]
          · show rs m1 0 (ru (ru (m1 0) 28 P) 23 (st + c + 1)) 0 23 = st + (c + 1)
            rw [rs_same, ru_same]; omega
          · show rs m1 0 (ru (ru (m1 0) 28 P) 23 (st + c + 1)) 0 24 = st
            rw [rs_same, ru_ne (by decide), ru_ne (by decide), d1]
          · show rs s1 5 (ru (s1 5) 0 (st + c + 1)) 5 3 = P
            rw [rs_same, ru_ne (by decide), c3]
          · show rs m1 0 (ru (ru (m1 0) 28 P) 23 (st + c + 1)) 0 28 = P
            rw [rs_same, ru_ne (by decide), ru_same]
        simp (disch := omega) only [↓gR_D0, ↓gR_D1, ↓gR_D2, ↓gR_D3, ↓gR_D4, ↓gR_D5, ↓gR_D6, ↓gR_D7, ↓gR_D8, ↓gR_D9, ↓gR_D10, ↓gI_D11, ↓pV_D11, ↓isO_D, ↓gI_T0, ↓pV_T0, ↓gR_T1, ↓isO_T, ↓rd_T2, ↓wr_T2, ↓gI_U0, ↓pV_U0, ↓gR_U1, ↓isO_U, ↓rd_U2, ↓wr_U2, ↓gI_Ps0, ↓pV_Ps0, ↓gI_Ps1, ↓pV_Ps1, ↓gI_Ps2, ↓pV_Ps2, ↓gI_Ps3, ↓pV_Ps3, ↓gI_Ps4, ↓pV_Ps4, ↓isO_Ps, ↓gI_N0, ↓pV_N0, ↓gI_N1, ↓pV_N1, ↓gI_N2, ↓pV_N2, ↓gI_N3, ↓pV_N3, ↓gR_N4, ↓gR_N5, ↓isO_N, ↓rd_NL, ↓gI_NB0, ↓pV_NB0, ↓gR_NB1, ↓gR_NB2, ↓isO_NB, ↓rd_NC, ↓wr_NC, ↓ln_NC, ↓rd_NP, ↓wr_NP, ↓ln_NP, ↓gI_V0, ↓pV_V0, ↓gI_V1, ↓pV_V1, ↓gI_V2, ↓pV_V2, ↓gI_V3, ↓pV_V3, ↓gR_V4, ↓gR_V5, ↓isO_V, ↓rd_VL, ↓gI_VB0, ↓pV_VB0, ↓gR_VB1, ↓gR_VB2, ↓isO_VB, ↓rd_VC, ↓wr_VC, ↓ln_VC, ↓rd_VP, ↓wr_VP, ↓ln_VP, ↓rd_SL, ↓rd_KP, ↓wr_KP, ↓gI_H0, ↓pV_H0, ↓gI_H1, ↓pV_H1, ↓gR_H2, ↓isO_H, ↓rd_HP, ↓gI_B0, ↓pV_B0, ↓gI_B1, ↓pV_B1, ↓gR_B2, ↓gR_B3, ↓gR_B4, ↓gR_B5, ↓gR_B6, ↓gR_B7, ↓gR_B8, ↓isO_B, ↓rd_B301, ↓wr_B301, ↓ln_B301, ↓rd_B302, ↓wr_B302, ↓ln_B302, ↓rd_B303, ↓wr_B303, ↓ln_B303, ↓rd_B304, ↓wr_B304, ↓ln_B304, ↓rd_B305, ↓wr_B305, ↓ln_B305, ↓rd_B306, ↓wr_B306, ↓ln_B306, ↓rd_B307, ↓wr_B307, ↓ln_B307, ↓gR_Tv, ↓isO_Tv, ↓rd_Tv9, ↓wr_Tv9, ↓ln_Tv9, pV_D11, pV_T0, rd_T2, wr_T2, pV_U0, rd_U2, wr_U2, pV_Ps0, pV_Ps1, pV_Ps2, pV_Ps3, pV_Ps4, pV_N0, pV_N1, pV_N2, pV_N3, rd_NL, pV_NB0, rd_NC, wr_NC, rd_NP, wr_NP, pV_V0, pV_V1, pV_V2, pV_V3, rd_VL, pV_VB0, rd_VC, wr_VC, rd_VP, wr_VP, rd_SL, rd_KP, wr_KP, pV_H0, pV_H1, rd_HP, pV_B0, pV_B1, rd_B301, wr_B301, rd_B302, wr_B302, rd_B303, wr_B303, rd_B304, wr_B304, rd_B305, wr_B305, rd_B306, wr_B306, rd_B307, wr_B307, rd_Tv9, wr_Tv9, ↓isO_M, ↓gL_H, ↓pL_H, ↓gI_M1, ↓gI_M2, ↓gI_M3, ↓gI_M4, ↓gI_M5, ↓gI_M6, ↓gI_M13, ↓gI_M22, ↓gI_M23, ↓gI_M24, ↓gI_M25, ↓gI_M27, ↓gI_M28, ↓gI_M29, ↓gI_M30, ↓gI_M31, ↓gI_M32, ↓gI_M33, ↓gI_M34, ↓gI_M35, ↓gI_M40, ↓gI_M41, ↓gI_M42, ↓gI_M43, ↓pV_M1, ↓pV_M2, ↓pV_M3, ↓pV_M4, ↓pV_M5, ↓pV_M6, ↓pV_M13, ↓pV_M22, ↓pV_M23, ↓pV_M24, ↓pV_M25, ↓pV_M27, ↓pV_M28, ↓pV_M29, ↓pV_M30, ↓pV_M31, ↓pV_M32, ↓pV_M33, ↓pV_M34, ↓pV_M35, ↓pV_M40, ↓pV_M41, ↓pV_M42, ↓pV_M43, ↓gR_M0, ↓gR_M7, ↓gR_M8, ↓gR_M9, ↓gR_M10, ↓gR_M11, ↓gR_M12, ↓gR_M14, ↓gR_M15, ↓gR_M16, ↓gR_M17, ↓gR_M18, ↓gR_M19, ↓gR_M20, ↓gR_M21, ↓gR_M36, ↓gR_M37, ↓gR_M38, ↓gR_M39, ↓rd_M1, ↓rd_M2, ↓rd_M3, ↓rd_M4, ↓rd_M5, ↓rd_M6, ↓rd_M7, ↓rd_M8, ↓rd_M9, ↓rd_M10, ↓rd_M11, ↓rd_M12, ↓rd_M13, ↓rd_M14, ↓rd_M15, ↓rd_M16, ↓rd_M17, ↓rd_M18, ↓rd_M19, ↓wr_M1, ↓wr_M2, ↓wr_M3, ↓wr_M4, ↓wr_M5, ↓wr_M6, ↓wr_M7, ↓wr_M8, ↓wr_M9, ↓wr_M10, ↓wr_M11, ↓wr_M12, ↓wr_M13, ↓wr_M14, ↓wr_M15, ↓wr_M16, ↓wr_M17, ↓wr_M18, ↓wr_M19, pL_H, pV_M1, pV_M2, pV_M3, pV_M4, pV_M5, pV_M6, pV_M13, pV_M22, pV_M23, pV_M24, pV_M25, pV_M27, pV_M28, pV_M29, pV_M30, pV_M31, pV_M32, pV_M33, pV_M34, pV_M35, pV_M40, pV_M41, pV_M42, pV_M43, rd_M1, rd_M2, rd_M3, rd_M4, rd_M5, rd_M6, rd_M7, rd_M8, rd_M9, rd_M10, rd_M11, rd_M12, rd_M13, rd_M14, rd_M15, rd_M16, rd_M17, rd_M18, rd_M19, wr_M1, wr_M2, wr_M3, wr_M4, wr_M5, wr_M6, wr_M7, wr_M8, wr_M9, wr_M10, wr_M11, wr_M12, wr_M13, wr_M14, wr_M15, wr_M16, wr_M17, wr_M18, wr_M19, J_l, J_neg, J_add, J_sub, J_mul, J_lt, J_le, J_eq, J_div2, J_rem2, J_shl1, J_orp, J_or, J_and, J_shr, J_ushr, J_max, J_min, J_abs, J_b0, ↓b0_ite, ↓b0_ite2, b0_ite, bI_r, bV_r, b01_ite, ite_true, ite_false, rZ_b, K_l, J_long, M_in, rs_same, rs_ne, rs_rs, ru_same, ru_ne, ne_eq, c0, c3, d0, d1, d3, rd1, show st + c - st = c by omega, ior_z, K_mul, K_add]
        rw [if_neg h6, if_neg h6]
        by_cases h8 : c < 8
        · rw [if_pos h8] at hWs
          rw [if_pos h8]
          exact go _ hWs
        · rw [if_neg h8] at hWs
          rw [if_neg h8]
          exact go _ hWs
    · rw [if_neg hL, if_neg (show ¬(st + c < m 0 1 ∧ 97 ≤ m 1 (st + c) ∧ m 1 (st + c) ≤ 122) from fun q => hL q.2)]
      refine fin ?_
      by_cases e : c = 0
      · rw [e, Int.add_zero] at hL
        exact absurd hf hL
      · omega
  · simp (disch := omega) only [↓gR_D0, ↓gR_D1, ↓gR_D2, ↓gR_D3, ↓gR_D4, ↓gR_D5, ↓gR_D6, ↓gR_D7, ↓gR_D8, ↓gR_D9, ↓gR_D10, ↓gI_D11, ↓pV_D11, ↓isO_D, ↓gI_T0, ↓pV_T0, ↓gR_T1, ↓isO_T, ↓rd_T2, ↓wr_T2, ↓gI_U0, ↓pV_U0, ↓gR_U1, ↓isO_U, ↓rd_U2, ↓wr_U2, ↓gI_Ps0, ↓pV_Ps0, ↓gI_Ps1, ↓pV_Ps1, ↓gI_Ps2, ↓pV_Ps2, ↓gI_Ps3, ↓pV_Ps3, ↓gI_Ps4, ↓pV_Ps4, ↓isO_Ps, ↓gI_N0, ↓pV_N0, ↓gI_N1, ↓pV_N1, ↓gI_N2, ↓pV_N2, ↓gI_N3, ↓pV_N3, ↓gR_N4, ↓gR_N5, ↓isO_N, ↓rd_NL, ↓gI_NB0, ↓pV_NB0, ↓gR_NB1, ↓gR_NB2, ↓isO_NB, ↓rd_NC, ↓wr_NC, ↓ln_NC, ↓rd_NP, ↓wr_NP, ↓ln_NP, ↓gI_V0, ↓pV_V0, ↓gI_V1, ↓pV_V1, ↓gI_V2, ↓pV_V2, ↓gI_V3, ↓pV_V3, ↓gR_V4, ↓gR_V5, ↓isO_V, ↓rd_VL, ↓gI_VB0, ↓pV_VB0, ↓gR_VB1, ↓gR_VB2, ↓isO_VB, ↓rd_VC, ↓wr_VC, ↓ln_VC, ↓rd_VP, ↓wr_VP, ↓ln_VP, ↓rd_SL, ↓rd_KP, ↓wr_KP, ↓gI_H0, ↓pV_H0, ↓gI_H1, ↓pV_H1, ↓gR_H2, ↓isO_H, ↓rd_HP, ↓gI_B0, ↓pV_B0, ↓gI_B1, ↓pV_B1, ↓gR_B2, ↓gR_B3, ↓gR_B4, ↓gR_B5, ↓gR_B6, ↓gR_B7, ↓gR_B8, ↓isO_B, ↓rd_B301, ↓wr_B301, ↓ln_B301, ↓rd_B302, ↓wr_B302, ↓ln_B302, ↓rd_B303, ↓wr_B303, ↓ln_B303, ↓rd_B304, ↓wr_B304, ↓ln_B304, ↓rd_B305, ↓wr_B305, ↓ln_B305, ↓rd_B306, ↓wr_B306, ↓ln_B306, ↓rd_B307, ↓wr_B307, ↓ln_B307, ↓gR_Tv, ↓isO_Tv, ↓rd_Tv9, ↓wr_Tv9, ↓ln_Tv9, pV_D11, pV_T0, rd_T2, wr_T2, pV_U0, rd_U2, wr_U2, pV_Ps0, pV_Ps1, pV_Ps2, pV_Ps3, pV_Ps4, pV_N0, pV_N1, pV_N2, pV_N3, rd_NL, pV_NB0, rd_NC, wr_NC, rd_NP, wr_NP, pV_V0, pV_V1, pV_V2, pV_V3, rd_VL, pV_VB0, rd_VC, wr_VC, rd_VP, wr_VP, rd_SL, rd_KP, wr_KP, pV_H0, pV_H1, rd_HP, pV_B0, pV_B1, rd_B301, wr_B301, rd_B302, wr_B302, rd_B303, wr_B303, rd_B304, wr_B304, rd_B305, wr_B305, rd_B306, wr_B306, rd_B307, wr_B307, rd_Tv9, wr_Tv9, ↓isO_M, ↓gL_H, ↓pL_H, ↓gI_M1, ↓gI_M2, ↓gI_M3, ↓gI_M4, ↓gI_M5, ↓gI_M6, ↓gI_M13, ↓gI_M22, ↓gI_M23, ↓gI_M24, ↓gI_M25, ↓gI_M27, ↓gI_M28, ↓gI_M29, ↓gI_M30, ↓gI_M31, ↓gI_M32, ↓gI_M33, ↓gI_M34, ↓gI_M35, ↓gI_M40, ↓gI_M41, ↓gI_M42, ↓gI_M43, ↓pV_M1, ↓pV_M2, ↓pV_M3, ↓pV_M4, ↓pV_M5, ↓pV_M6, ↓pV_M13, ↓pV_M22, ↓pV_M23, ↓pV_M24, ↓pV_M25, ↓pV_M27, ↓pV_M28, ↓pV_M29, ↓pV_M30, ↓pV_M31, ↓pV_M32, ↓pV_M33, ↓pV_M34, ↓pV_M35, ↓pV_M40, ↓pV_M41, ↓pV_M42, ↓pV_M43, ↓gR_M0, ↓gR_M7, ↓gR_M8, ↓gR_M9, ↓gR_M10, ↓gR_M11, ↓gR_M12, ↓gR_M14, ↓gR_M15, ↓gR_M16, ↓gR_M17, ↓gR_M18, ↓gR_M19, ↓gR_M20, ↓gR_M21, ↓gR_M36, ↓gR_M37, ↓gR_M38, ↓gR_M39, ↓rd_M1, ↓rd_M2, ↓rd_M3, ↓rd_M4, ↓rd_M5, ↓rd_M6, ↓rd_M7, ↓rd_M8, ↓rd_M9, ↓rd_M10, ↓rd_M11, ↓rd_M12, ↓rd_M13, ↓rd_M14, ↓rd_M15, ↓rd_M16, ↓rd_M17, ↓rd_M18, ↓rd_M19, ↓wr_M1, ↓wr_M2, ↓wr_M3, ↓wr_M4, ↓wr_M5, ↓wr_M6, ↓wr_M7, ↓wr_M8, ↓wr_M9, ↓wr_M10, ↓wr_M11, ↓wr_M12, ↓wr_M13, ↓wr_M14, ↓wr_M15, ↓wr_M16, ↓wr_M17, ↓wr_M18, ↓wr_M19, pL_H, pV_M1, pV_M2, pV_M3, pV_M4, pV_M5, pV_M6, pV_M13, pV_M22, pV_M23, pV_M24, pV_M25, pV_M27, pV_M28, pV_M29, pV_M30, pV_M31, pV_M32, pV_M33, pV_M34, pV_M35, pV_M40, pV_M41, pV_M42, pV_M43, rd_M1, rd_M2, rd_M3, rd_M4, rd_M5, rd_M6, rd_M7, rd_M8, rd_M9, rd_M10, rd_M11, rd_M12, rd_M13, rd_M14, rd_M15, rd_M16, rd_M17, rd_M18, rd_M19, wr_M1, wr_M2, wr_M3, wr_M4, wr_M5, wr_M6, wr_M7, wr_M8, wr_M9, wr_M10, wr_M11, wr_M12, wr_M13, wr_M14, wr_M15, wr_M16, wr_M17, wr_M18, wr_M19, J_l, J_neg, J_add, J_sub, J_mul, J_lt, J_le, J_eq, J_div2, J_rem2, J_shl1, J_orp, J_or, J_and, J_shr, J_ushr, J_max, J_min, J_abs, J_b0, ↓b0_ite, ↓b0_ite2, b0_ite, bI_r, bV_r, b01_ite, ite_true, ite_false, rZ_b, K_l, J_long, M_in, c0, t1', by2]
    rw [if_neg hl, if_neg (show ¬(st + c < m 0 1 ∧ 97 ≤ m 1 (st + c) ∧ m 1 (st + c) ≤ 122) from fun q => hl q.1)]
    exact fin (by omega)
end SC
