/-! the lines of a setup text on both sides -/
section LNS
variable {z y : Nat} {g g' : XH} {w w' : Int64} {s s' s0 s1 s2 m m' m0 m1 m2 : CT} {G W W' V W1 row row' r0 nm lo lg sn f : Int → Int} {wd hg mt c i j l n p v t k x xx yy N q o to : Int} {a b : Nat} {h : XH}
variable {k r u e d lw up st nv zv tv : Int} {w1 w2 w3 : Int64} {x1 x2 x3 x4 x5 : Int32} {N1 N2 D : Nat} {P Q : XR}
theorem new_any (h33 : 0 ≤ m 0 33 ∧ m 0 33 ≤ 8) : ∃ f, (f = 0 ∨ f = 1) ∧ qM_isNewName y (hi y TM g w m) = rI (J f) (hi y TM g w m) := by
  have key : ∀ f0, f0 = 0 ∨ f0 = 1 → ∃ f, (f = 0 ∨ f = 1) ∧ qM_isNewName_16 LF y (J f0) (J 0) (hi y TM g w m) = rI (J f) (hi y TM g w m) := by
    intro f0 hf0
    refine loopI (S := Int × Int) (fun N p => qM_isNewName_16 N y (J p.1) (J p.2) (hi y TM g w m)) (fun X => ∃ f, (f = 0 ∨ f = 1) ∧ X = rI (J f) (hi y TM g w m)) (fun p => (0 ≤ p.2 ∧ p.2 ≤ m 0 33) ∧ (p.1 = 0 ∨ p.1 = 1)) (fun p => m 0 33 - p.2) (by intro p hp; omega) (fun N p hp ih => ?_) (f0, 0) ⟨⟨Int.le_refl 0, h33.1⟩, hf0⟩ (by show m 0 33 - 0 < 20000; omega)
    obtain ⟨f, i⟩ := p
    change (0 ≤ i ∧ i ≤ m 0 33) ∧ (f = 0 ∨ f = 1) at hp
    obtain ⟨i1, i2⟩ := hp
    show ∃ f', (f' = 0 ∨ f' = 1) ∧ qM_isNewName_16_b (qM_isNewName_16 N) y (J f) (J i) (hi y TM g w m) = rI (J f') (hi y TM g w m)
    unfold qM_isNewName_16_b
    have ih' := fun (f' : Int) (q : (0 ≤ i + 1 ∧ i + 1 ≤ m 0 33) ∧ (f' = 0 ∨ f' = 1)) => ih (f', i + 1) q (by show m 0 33 - (i + 1) < m 0 33 - i; omega)
    have st1 : (J i) + (1 : Int32) = J (i + 1) := J_add i 1
    rw [gI_M33]
    by_cases hc : i < m 0 33
    · rw [if_pos ((J_lt (by omega)).mpr hc)]
      by_cases h0 : J f = (0 : Int32)
      · rw [if_pos h0, st1]
        exact ih' 0 ⟨by omega, Or.inl rfl⟩
      · rw [if_neg h0, gR_M36, rd_M16 (by omega), gI_M28, st1]
        split
        · exact ih' 0 ⟨by omega, Or.inl rfl⟩
        · exact ih' 1 ⟨by omega, Or.inr rfl⟩
    · rw [if_neg (fun q => hc ((J_lt (by omega)).mp q))]
      rcases i2 with rfl | rfl
      · rw [rZ_0]; exact ⟨0, Or.inl rfl, rfl⟩
      · rw [rZ_1]; exact ⟨1, Or.inr rfl, rfl⟩
  unfold qM_isNewName
  rw [gI_M25]
  split
  · exact key 1 (Or.inr rfl)
  · exact key 0 (Or.inl rfl)
theorem readLine_fail (h : JL s m w') (h33 : 0 ≤ m 0 33 ∧ m 0 33 ≤ 8) (hn : ¬(s 5 2 = 7 ∧ m 0 33 < 8)) : ∃ m', qM_readLine y (hi y TM g w' m) = rV (hi y TM g w' m') ∧ NF s m' ∧ FMm m m' := by
  have nf := failM_n h
  have f33 : failM m 0 33 = m 0 33 := failM_0 (by decide) (by decide)
  obtain ⟨f, hf, eN⟩ := new_any (y := y) (g := g) (w := w') (m := failM m) (by omega)
  obtain ⟨m', e1, e2, e3, e4⟩ := tail0_nf (y := y) (g := g) (w := w') nf.1 (F := fun v7 v9 h11 => isO h11 y 9 (bV (qM_readPoint y h11) (fun h13 => isO h13 y 9 (bV (qM_readPoint y h13) (fun h14 => qM_readLine_89 LF y (J (failM m 0 28)) v7 v9 h14)))))
  refine ⟨m', ?_, NF_of nf e2 e3, FMm.trans failM_f e4⟩
  have go : qM_readLine_24 y y (hi y TM g w' m) = rV (hi y TM g w' m') := by
    have tf : qM_takes y (0 : Int32) (hi y TM g w' m) = rV (hi y TM g w' (failM m)) := takes_fail h.2
    unfold qM_readLine_24 qM_readLine_25
    rw [isO_M, tf, bV_r, gI_M28, isO_M, eN, bI_r, isO_M, takes_nf nf.1, bV_r]
    exact e1
  have ih := isHere_ok (y := y) (g := g) (v := K (keyN 7)) h
  unfold qM_readLine
  by_cases h7 : s 5 2 = 7
  · rw [b01_pos ((key_iff h (by omega)).mpr h7)] at ih
    have ih' : qM_isHere y (402885 : Int64) (hi y TM g w' m) = rI (J 1) (hi y TM g w' m) := ih
    have k8 : ¬J (m 0 33) < (8 : Int32) := by
      rw [show (8 : Int32) = J 8 from rfl, J_lt (by omega)]
      omega
    rw [isO_M, ih', bI_r, if_neg (show ¬J 1 = (0 : Int32) by decide), gI_M33, if_neg k8]
    exact go
  · rw [b01_neg (fun q => h7 ((key_iff h (by omega)).mp q))] at ih
    have ih' : qM_isHere y (402885 : Int64) (hi y TM g w' m) = rI (J 0) (hi y TM g w' m) := ih
    rw [isO_M, ih', bI_r, if_pos (show J 0 = (0 : Int32) from rfl)]
    exact go
def LsR (P Q : XR) (z y : Nat) (g g' : XH) (w : Int64) (s m : CT) : Prop := (∃ s' m' w2, P = rI (J (s' 5 1)) (hi z TD g w s') ∧ Q = rV (hi y TM g' w2 m') ∧ NF s' m' ∧ FC s s' ∧ FMm m m') ∨ ∃ s' m' w2 n, P = rI (J (-2)) (hi z TD g w s') ∧ Q = rV (hi y TM g' w2 m') ∧ JL s' m' w2 ∧ FC s s' ∧ FMm m m' ∧ HdS s' m' ∧ s' 35 3 = n ∧ m' 0 33 = n ∧ (0 ≤ n ∧ n ≤ 8) ∧ LnI s' m' n
theorem LsR.tr (h1 : FC s s1) (h2 : FMm m m1) (h : LsR P Q z y g g' w s1 m1) : LsR P Q z y g g' w s m := by
  rcases h with ⟨s', m', w2, a1, a2, a3, a4, a5⟩ | ⟨s', m', w2, n, a1, a2, a3, a4, a5, a6⟩
  · exact Or.inl ⟨s', m', w2, a1, a2, a3, FC.trans h1 a4, FMm.trans h2 a5⟩
  · exact Or.inr ⟨s', m', w2, n, a1, a2, a3, FC.trans h1 a4, FMm.trans h2 a5, a6⟩
theorem all59_nf (h : m 0 29 = 0) : qM_readAll_59 (N1 + 1) y (hi y TM g w m) = rV (hi y TM g w m) := by
  show qM_readAll_59_b (qM_readAll_59 N1) y (hi y TM g w m) = _
  unfold qM_readAll_59_b
  rw [gI_M29, h, if_pos (show J 0 = (0 : Int32) from rfl)]
theorem parse71 : qPs_parse_71 (z + 5) (hi z TD g w s) = rI (J (s 5 1)) (hi z TD g w s) := by
  unfold qPs_parse_71
  rw [gI_Ps1]
theorem loop_lns (hg0 : GOk g z) : ∀ (D : Nat) (l : Int) (s m : CT) (w' : Int64), l + D = 8 → 0 ≤ l → JL s m w' → HdS s m → s 35 3 = l → m 0 33 = l → LnI s m l → ∀ N1 N2 : Nat, D + 1 ≤ N1 → D + 2 ≤ N2 → LsR (qPs_parse_26 N1 (z + 5) (z + 1) (z + 35) (J l) (hi z TD g w s)) (qM_readAll_59 N2 y (hi y TM g' w' m)) z y g g' w s m := by
  -- where no line stands
  have stop : ∀ (l : Int) (s m : CT) (w' : Int64), (0 ≤ l ∧ l ≤ 8) → JL s m w' → HdS s m → s 35 3 = l → m 0 33 = l → LnI s m l → ¬(s 5 2 = 7 ∧ l < 8) → ∀ a b : Nat, LsR (qPs_parse_26_b (qPs_parse_26 a) (z + 5) (z + 1) (z + 35) (J l) (hi z TD g w s)) (qM_readAll_59 (b + 2) y (hi y TM g' w' m)) z y g g' w s m := by
    intro l s m w' hl h hd h35 h33 hln hn a b
    have tb := TkR_bd h.1.2.2.2
    have x29 := h.2
    have ei := end_iff h
    have eC : qPs_parse_26_b (qPs_parse_26 a) (z + 5) (z + 1) (z + 35) (J l) (hi z TD g w s) = qPs_parse_92 (z + 5) (hi z TD g w s) := by
      unfold qPs_parse_26_b
      simp (disch := first | assumption | omega) only [↓gR_D0, ↓gR_D1, ↓gR_D2, ↓gR_D3, ↓gR_D4, ↓gR_D5, ↓gR_D6, ↓gR_D7, ↓gR_D8, ↓gR_D9, ↓gR_D10, ↓gI_D11, ↓pV_D11, ↓isO_D, ↓gI_T0, ↓pV_T0, ↓gR_T1, ↓isO_T, ↓rd_T2, ↓wr_T2, ↓gI_U0, ↓pV_U0, ↓gR_U1, ↓isO_U, ↓rd_U2, ↓wr_U2, ↓gI_Ps0, ↓pV_Ps0, ↓gI_Ps1, ↓pV_Ps1, ↓gI_Ps2, ↓pV_Ps2, ↓gI_Ps3, ↓pV_Ps3, ↓gI_Ps4, ↓pV_Ps4, ↓isO_Ps, ↓gI_N0, ↓pV_N0, ↓gI_N1, ↓pV_N1, ↓gI_N2, ↓pV_N2, ↓gI_N3, ↓pV_N3, ↓gR_N4, ↓gR_N5, ↓isO_N, ↓rd_NL, ↓gI_NB0, ↓pV_NB0, ↓gR_NB1, ↓gR_NB2, ↓isO_NB, ↓rd_NC, ↓wr_NC, ↓ln_NC, ↓rd_NP, ↓wr_NP, ↓ln_NP, ↓gI_V0, ↓pV_V0, ↓gI_V1, ↓pV_V1, ↓gI_V2, ↓pV_V2, ↓gI_V3, ↓pV_V3, ↓gR_V4, ↓gR_V5, ↓isO_V, ↓rd_VL, ↓gI_VB0, ↓pV_VB0, ↓gR_VB1, ↓gR_VB2, ↓isO_VB, ↓rd_VC, ↓wr_VC, ↓ln_VC, ↓rd_VP, ↓wr_VP, ↓ln_VP, ↓rd_SL, ↓rd_KP, ↓wr_KP, ↓gI_H0, ↓pV_H0, ↓gI_H1, ↓pV_H1, ↓gR_H2, ↓isO_H, ↓rd_HP, ↓gI_B0, ↓pV_B0, ↓gI_B1, ↓pV_B1, ↓gR_B2, ↓gR_B3, ↓gR_B4, ↓gR_B5, ↓gR_B6, ↓gR_B7, ↓gR_B8, ↓isO_B, ↓rd_B301, ↓wr_B301, ↓ln_B301, ↓rd_B302, ↓wr_B302, ↓ln_B302, ↓rd_B303, ↓wr_B303, ↓ln_B303, ↓rd_B304, ↓wr_B304, ↓ln_B304, ↓rd_B305, ↓wr_B305, ↓ln_B305, ↓rd_B306, ↓wr_B306, ↓ln_B306, ↓rd_B307, ↓wr_B307, ↓ln_B307, ↓gR_Tv, ↓isO_Tv, ↓rd_Tv9, ↓wr_Tv9, ↓ln_Tv9, pV_D11, pV_T0, rd_T2, wr_T2, pV_U0, rd_U2, wr_U2, pV_Ps0, pV_Ps1, pV_Ps2, pV_Ps3, pV_Ps4, pV_N0, pV_N1, pV_N2, pV_N3, rd_NL, pV_NB0, rd_NC, wr_NC, rd_NP, wr_NP, pV_V0, pV_V1, pV_V2, pV_V3, rd_VL, pV_VB0, rd_VC, wr_VC, rd_VP, wr_VP, rd_SL, rd_KP, wr_KP, pV_H0, pV_H1, rd_HP, pV_B0, pV_B1, rd_B301, wr_B301, rd_B302, wr_B302, rd_B303, wr_B303, rd_B304, wr_B304, rd_B305, wr_B305, rd_B306, wr_B306, rd_B307, wr_B307, rd_Tv9, wr_Tv9, ↓isO_L, ↓gI_L0, ↓pV_L0, ↓gI_L1, ↓pV_L1, ↓gI_L2, ↓pV_L2, ↓gI_L3, ↓pV_L3, ↓gR_L4, ↓rd_L4, ↓wr_L4, ↓gR_L5, ↓rd_L5, ↓wr_L5, pV_L0, pV_L1, pV_L2, pV_L3, rd_L4, wr_L4, rd_L5, wr_L5, J_l, J_neg, J_add, J_sub, J_mul, J_lt, J_le, J_eq, J_div2, J_rem2, J_shl1, J_orp, J_or, J_and, J_shr, J_ushr, J_max, J_min, J_abs, J_b0, ↓b0_ite, ↓b0_ite2, b0_ite, bI_r, bV_r, b01_ite, ite_true, ite_false, rZ_b, K_l, J_long, M_in]
      by_cases h7 : s 5 2 = 7
      · rw [if_pos h7, if_neg (fun q => hn ⟨h7, q⟩)]
      · rw [if_neg h7]
    rw [eC]
    unfold qPs_parse_92
    show LsR _ (qM_readAll_59_b (qM_readAll_59 (b + 1)) y (hi y TM g' w' m)) z y g g' w s m
    unfold qM_readAll_59_b
    by_cases h0 : s 5 2 = 0
    · right
      have k0 := ei.mpr h0
      refine ⟨s, m, w', l, ?_, ?_, h, FC.refl, FMm.refl, hd, h35, h33, hl, hln⟩
      · rw [gI_Ps2, h0, if_pos (show J 0 = (0 : Int32) from rfl)]
        rfl
      · rw [gI_M29, x29, if_neg (show ¬J 1 = (0 : Int32) by decide), gI_M25, k0, if_pos (show J 0 = (0 : Int32) from rfl)]
    · left
      have n0 : ¬J (s 5 2) = (0 : Int32) := by
        rw [show (0 : Int32) = J 0 from rfl, J_eq (by omega)]
        exact h0
      have n25 : ¬J (m 0 25) = (0 : Int32) := by
        rw [show (0 : Int32) = J 0 from rfl, J_eq (by omega)]
        exact fun q => h0 (ei.mp q)
      obtain ⟨m', e1, e2, e3⟩ := readLine_fail (y := y) (g := g') h (by omega) (fun q => hn ⟨q.1, by omega⟩)
      refine ⟨s, m', w', ?_, ?_, e2, FC.refl, e3⟩
      · rw [gI_Ps2, if_neg n0, gI_Ps1]
      · rw [gI_M29, x29, if_neg (show ¬J 1 = (0 : Int32) by decide), gI_M25, if_neg n25, isO_M, e1, bV_r, all59_nf e2.1]
  intro D
  induction D with
  | zero =>
    intro l s m w' hlD hl h hd h35 h33 hln N1 N2 h1 h2
    obtain ⟨a, rfl⟩ : ∃ a, N1 = a + 1 := ⟨N1 - 1, by omega⟩
    obtain ⟨b, rfl⟩ : ∃ b, N2 = b + 2 := ⟨N2 - 2, by omega⟩
    exact stop l s m w' (by omega) h hd h35 h33 hln (fun q => by omega) a b
  | succ D ih =>
    intro l s m w' hlD hl h hd h35 h33 hln N1 N2 h1 h2
    obtain ⟨a, rfl⟩ : ∃ a, N1 = a + 1 := ⟨N1 - 1, by omega⟩
    obtain ⟨b, rfl⟩ : ∃ b, N2 = b + 2 := ⟨N2 - 2, by omega⟩
    by_cases h7 : s 5 2 = 7
    · have hl8 : 0 ≤ l ∧ l < 8 := by omega
      have hLn := isLn_40 hl8
      have tb := TkR_bd h.1.2.2.2
      have x29 := h.2
      have n25 : ¬J (m 0 25) = (0 : Int32) := by
        rw [show (0 : Int32) = J 0 from rfl, J_eq (by omega)]
        exact fun q => by have := (end_iff h).mp q; omega
      show LsR (qPs_parse_26_b (qPs_parse_26 a) (z + 5) (z + 1) (z + 35) (J l) (hi z TD g w s)) (qM_readAll_59_b (qM_readAll_59 (b + 1)) y (hi y TM g' w' m)) z y g g' w s m
      have eM : qM_readAll_59_b (qM_readAll_59 (b + 1)) y (hi y TM g' w' m) = bV (qM_readLine y (hi y TM g' w' m)) (fun h3 => qM_readAll_59 (b + 1) y h3) := by
        unfold qM_readAll_59_b
        rw [gI_M29, x29, if_neg (show ¬J 1 = (0 : Int32) by decide), gI_M25, if_neg n25, isO_M]
      rw [eM]
      unfold qPs_parse_26_b
      rcases head_both (z := z) (y := y) (g := g) (g' := g') (w := w) h hd h35 h33 hl8 hln h7 with ⟨s1, m1, w1, a1, a2, a3, a4, a5⟩ | ⟨s1, m1, w1, nv, zv, tv, a1, a2, a3, a4, a5, a6, a7, a8⟩
      · simp (disch := first | assumption | omega) only [↓gR_D0, ↓gR_D1, ↓gR_D2, ↓gR_D3, ↓gR_D4, ↓gR_D5, ↓gR_D6, ↓gR_D7, ↓gR_D8, ↓gR_D9, ↓gR_D10, ↓gI_D11, ↓pV_D11, ↓isO_D, ↓gI_T0, ↓pV_T0, ↓gR_T1, ↓isO_T, ↓rd_T2, ↓wr_T2, ↓gI_U0, ↓pV_U0, ↓gR_U1, ↓isO_U, ↓rd_U2, ↓wr_U2, ↓gI_Ps0, ↓pV_Ps0, ↓gI_Ps1, ↓pV_Ps1, ↓gI_Ps2, ↓pV_Ps2, ↓gI_Ps3, ↓pV_Ps3, ↓gI_Ps4, ↓pV_Ps4, ↓isO_Ps, ↓gI_N0, ↓pV_N0, ↓gI_N1, ↓pV_N1, ↓gI_N2, ↓pV_N2, ↓gI_N3, ↓pV_N3, ↓gR_N4, ↓gR_N5, ↓isO_N, ↓rd_NL, ↓gI_NB0, ↓pV_NB0, ↓gR_NB1, ↓gR_NB2, ↓isO_NB, ↓rd_NC, ↓wr_NC, ↓ln_NC, ↓rd_NP, ↓wr_NP, ↓ln_NP, ↓gI_V0, ↓pV_V0, ↓gI_V1, ↓pV_V1, ↓gI_V2, ↓pV_V2, ↓gI_V3, ↓pV_V3, ↓gR_V4, ↓gR_V5, ↓isO_V, ↓rd_VL, ↓gI_VB0, ↓pV_VB0, ↓gR_VB1, ↓gR_VB2, ↓isO_VB, ↓rd_VC, ↓wr_VC, ↓ln_VC, ↓rd_VP, ↓wr_VP, ↓ln_VP, ↓rd_SL, ↓rd_KP, ↓wr_KP, ↓gI_H0, ↓pV_H0, ↓gI_H1, ↓pV_H1, ↓gR_H2, ↓isO_H, ↓rd_HP, ↓gI_B0, ↓pV_B0, ↓gI_B1, ↓pV_B1, ↓gR_B2, ↓gR_B3, ↓gR_B4, ↓gR_B5, ↓gR_B6, ↓gR_B7, ↓gR_B8, ↓isO_B, ↓rd_B301, ↓wr_B301, ↓ln_B301, ↓rd_B302, ↓wr_B302, ↓ln_B302, ↓rd_B303, ↓wr_B303, ↓ln_B303, ↓rd_B304, ↓wr_B304, ↓ln_B304, ↓rd_B305, ↓wr_B305, ↓ln_B305, ↓rd_B306, ↓wr_B306, ↓ln_B306, ↓rd_B307, ↓wr_B307, ↓ln_B307, ↓gR_Tv, ↓isO_Tv, ↓rd_Tv9, ↓wr_Tv9, ↓ln_Tv9, pV_D11, pV_T0, rd_T2, wr_T2, pV_U0, rd_U2, wr_U2, pV_Ps0, pV_Ps1, pV_Ps2, pV_Ps3, pV_Ps4, pV_N0, pV_N1, pV_N2, pV_N3, rd_NL, pV_NB0, rd_NC, wr_NC, rd_NP, wr_NP, pV_V0, pV_V1, pV_V2, pV_V3, rd_VL, pV_VB0, rd_VC, wr_VC, rd_VP, wr_VP, rd_SL, rd_KP, wr_KP, pV_H0, pV_H1, rd_HP, pV_B0, pV_B1, rd_B301, wr_B301, rd_B302, wr_B302, rd_B303, wr_B303, rd_B304, wr_B304, rd_B305, wr_B305, rd_B306, wr_B306, rd_B307, wr_B307, rd_Tv9, wr_Tv9, ↓isO_L, ↓gI_L0, ↓pV_L0, ↓gI_L1, ↓pV_L1, ↓gI_L2, ↓pV_L2, ↓gI_L3, ↓pV_L3, ↓gR_L4, ↓rd_L4, ↓wr_L4, ↓gR_L5, ↓rd_L5, ↓wr_L5, pV_L0, pV_L1, pV_L2, pV_L3, rd_L4, wr_L4, rd_L5, wr_L5, J_l, J_neg, J_add, J_sub, J_mul, J_lt, J_le, J_eq, J_div2, J_rem2, J_shl1, J_orp, J_or, J_and, J_shr, J_ushr, J_max, J_min, J_abs, J_b0, ↓b0_ite, ↓b0_ite2, b0_ite, bI_r, bV_r, b01_ite, ite_true, ite_false, rZ_b, K_l, J_long, M_in, h7, eq_self, a1, parse71]
        rw [if_pos hl8.2, a2, bV_r, all59_nf a3.1]
        exact Or.inl ⟨s1, m1, w1, rfl, rfl, a3, a4, a5⟩
      · rw [a2]
        rcases pts_both (z := z) (y := y) (g := g) (g' := g') (w := w) hg0 a3 a6 a7 a8 with ⟨s2, m2, w2, b1, b2, b3, b4, b5⟩ | ⟨s2, m2, w2, b1, b2, b3, b4, b5, b6⟩
        · simp (disch := first | assumption | omega) only [↓gR_D0, ↓gR_D1, ↓gR_D2, ↓gR_D3, ↓gR_D4, ↓gR_D5, ↓gR_D6, ↓gR_D7, ↓gR_D8, ↓gR_D9, ↓gR_D10, ↓gI_D11, ↓pV_D11, ↓isO_D, ↓gI_T0, ↓pV_T0, ↓gR_T1, ↓isO_T, ↓rd_T2, ↓wr_T2, ↓gI_U0, ↓pV_U0, ↓gR_U1, ↓isO_U, ↓rd_U2, ↓wr_U2, ↓gI_Ps0, ↓pV_Ps0, ↓gI_Ps1, ↓pV_Ps1, ↓gI_Ps2, ↓pV_Ps2, ↓gI_Ps3, ↓pV_Ps3, ↓gI_Ps4, ↓pV_Ps4, ↓isO_Ps, ↓gI_N0, ↓pV_N0, ↓gI_N1, ↓pV_N1, ↓gI_N2, ↓pV_N2, ↓gI_N3, ↓pV_N3, ↓gR_N4, ↓gR_N5, ↓isO_N, ↓rd_NL, ↓gI_NB0, ↓pV_NB0, ↓gR_NB1, ↓gR_NB2, ↓isO_NB, ↓rd_NC, ↓wr_NC, ↓ln_NC, ↓rd_NP, ↓wr_NP, ↓ln_NP, ↓gI_V0, ↓pV_V0, ↓gI_V1, ↓pV_V1, ↓gI_V2, ↓pV_V2, ↓gI_V3, ↓pV_V3, ↓gR_V4, ↓gR_V5, ↓isO_V, ↓rd_VL, ↓gI_VB0, ↓pV_VB0, ↓gR_VB1, ↓gR_VB2, ↓isO_VB, ↓rd_VC, ↓wr_VC, ↓ln_VC, ↓rd_VP, ↓wr_VP, ↓ln_VP, ↓rd_SL, ↓rd_KP, ↓wr_KP, ↓gI_H0, ↓pV_H0, ↓gI_H1, ↓pV_H1, ↓gR_H2, ↓isO_H, ↓rd_HP, ↓gI_B0, ↓pV_B0, ↓gI_B1, ↓pV_B1, ↓gR_B2, ↓gR_B3, ↓gR_B4, ↓gR_B5, ↓gR_B6, ↓gR_B7, ↓gR_B8, ↓isO_B, ↓rd_B301, ↓wr_B301, ↓ln_B301, ↓rd_B302, ↓wr_B302, ↓ln_B302, ↓rd_B303, ↓wr_B303, ↓ln_B303, ↓rd_B304, ↓wr_B304, ↓ln_B304, ↓rd_B305, ↓wr_B305, ↓ln_B305, ↓rd_B306, ↓wr_B306, ↓ln_B306, ↓rd_B307, ↓wr_B307, ↓ln_B307, ↓gR_Tv, ↓isO_Tv, ↓rd_Tv9, ↓wr_Tv9, ↓ln_Tv9, pV_D11, pV_T0, rd_T2, wr_T2, pV_U0, rd_U2, wr_U2, pV_Ps0, pV_Ps1, pV_Ps2, pV_Ps3, pV_Ps4, pV_N0, pV_N1, pV_N2, pV_N3, rd_NL, pV_NB0, rd_NC, wr_NC, rd_NP, wr_NP, pV_V0, pV_V1, pV_V2, pV_V3, rd_VL, pV_VB0, rd_VC, wr_VC, rd_VP, wr_VP, rd_SL, rd_KP, wr_KP, pV_H0, pV_H1, rd_HP, pV_B0, pV_B1, rd_B301, wr_B301, rd_B302, wr_B302, rd_B303, wr_B303, rd_B304, wr_B304, rd_B305, wr_B305, rd_B306, wr_B306, rd_B307, wr_B307, rd_Tv9, wr_Tv9, ↓isO_L, ↓gI_L0, ↓pV_L0, ↓gI_L1, ↓pV_L1, ↓gI_L2, ↓pV_L2, ↓gI_L3, ↓pV_L3, ↓gR_L4, ↓rd_L4, ↓wr_L4, ↓gR_L5, ↓rd_L5, ↓wr_L5, pV_L0, pV_L1, pV_L2, pV_L3, rd_L4, wr_L4, rd_L5, wr_L5, J_l, J_neg, J_add, J_sub, J_mul, J_lt, J_le, J_eq, J_div2, J_rem2, J_shl1, J_orp, J_or, J_and, J_shr, J_ushr, J_max, J_min, J_abs, J_b0, ↓b0_ite, ↓b0_ite2, b0_ite, bI_r, bV_r, b01_ite, ite_true, ite_false, rZ_b, K_l, J_long, M_in, I10, h7, eq_self, a1, b1, parse71]
          rw [if_pos hl8.2, b2, bV_r, all59_nf b3.1]
          exact Or.inl ⟨s2, m2, w2, rfl, rfl, b3, FC.trans a4 b4, FMm.trans a5 b5⟩
        · obtain ⟨c1, c2, c3, c4, c5⟩ := b6
          simp (disch := first | assumption | omega) only [↓gR_D0, ↓gR_D1, ↓gR_D2, ↓gR_D3, ↓gR_D4, ↓gR_D5, ↓gR_D6, ↓gR_D7, ↓gR_D8, ↓gR_D9, ↓gR_D10, ↓gI_D11, ↓pV_D11, ↓isO_D, ↓gI_T0, ↓pV_T0, ↓gR_T1, ↓isO_T, ↓rd_T2, ↓wr_T2, ↓gI_U0, ↓pV_U0, ↓gR_U1, ↓isO_U, ↓rd_U2, ↓wr_U2, ↓gI_Ps0, ↓pV_Ps0, ↓gI_Ps1, ↓pV_Ps1, ↓gI_Ps2, ↓pV_Ps2, ↓gI_Ps3, ↓pV_Ps3, ↓gI_Ps4, ↓pV_Ps4, ↓isO_Ps, ↓gI_N0, ↓pV_N0, ↓gI_N1, ↓pV_N1, ↓gI_N2, ↓pV_N2, ↓gI_N3, ↓pV_N3, ↓gR_N4, ↓gR_N5, ↓isO_N, ↓rd_NL, ↓gI_NB0, ↓pV_NB0, ↓gR_NB1, ↓gR_NB2, ↓isO_NB, ↓rd_NC, ↓wr_NC, ↓ln_NC, ↓rd_NP, ↓wr_NP, ↓ln_NP, ↓gI_V0, ↓pV_V0, ↓gI_V1, ↓pV_V1, ↓gI_V2, ↓pV_V2, ↓gI_V3, ↓pV_V3, ↓gR_V4, ↓gR_V5, ↓isO_V, ↓rd_VL, ↓gI_VB0, ↓pV_VB0, ↓gR_VB1, ↓gR_VB2, ↓isO_VB, ↓rd_VC, ↓wr_VC, ↓ln_VC, ↓rd_VP, ↓wr_VP, ↓ln_VP, ↓rd_SL, ↓rd_KP, ↓wr_KP, ↓gI_H0, ↓pV_H0, ↓gI_H1, ↓pV_H1, ↓gR_H2, ↓isO_H, ↓rd_HP, ↓gI_B0, ↓pV_B0, ↓gI_B1, ↓pV_B1, ↓gR_B2, ↓gR_B3, ↓gR_B4, ↓gR_B5, ↓gR_B6, ↓gR_B7, ↓gR_B8, ↓isO_B, ↓rd_B301, ↓wr_B301, ↓ln_B301, ↓rd_B302, ↓wr_B302, ↓ln_B302, ↓rd_B303, ↓wr_B303, ↓ln_B303, ↓rd_B304, ↓wr_B304, ↓ln_B304, ↓rd_B305, ↓wr_B305, ↓ln_B305, ↓rd_B306, ↓wr_B306, ↓ln_B306, ↓rd_B307, ↓wr_B307, ↓ln_B307, ↓gR_Tv, ↓isO_Tv, ↓rd_Tv9, ↓wr_Tv9, ↓ln_Tv9, pV_D11, pV_T0, rd_T2, wr_T2, pV_U0, rd_U2, wr_U2, pV_Ps0, pV_Ps1, pV_Ps2, pV_Ps3, pV_Ps4, pV_N0, pV_N1, pV_N2, pV_N3, rd_NL, pV_NB0, rd_NC, wr_NC, rd_NP, wr_NP, pV_V0, pV_V1, pV_V2, pV_V3, rd_VL, pV_VB0, rd_VC, wr_VC, rd_VP, wr_VP, rd_SL, rd_KP, wr_KP, pV_H0, pV_H1, rd_HP, pV_B0, pV_B1, rd_B301, wr_B301, rd_B302, wr_B302, rd_B303, wr_B303, rd_B304, wr_B304, rd_B305, wr_B305, rd_B306, wr_B306, rd_B307, wr_B307, rd_Tv9, wr_Tv9, ↓isO_L, ↓gI_L0, ↓pV_L0, ↓gI_L1, ↓pV_L1, ↓gI_L2, ↓pV_L2, ↓gI_L3, ↓pV_L3, ↓gR_L4, ↓rd_L4, ↓wr_L4, ↓gR_L5, ↓rd_L5, ↓wr_L5, pV_L0, pV_L1, pV_L2, pV_L3, rd_L4, wr_L4, rd_L5, wr_L5, J_l, J_neg, J_add, J_sub, J_mul, J_lt, J_le, J_eq, J_div2, J_rem2, J_shl1, J_orp, J_or, J_and, J_shr, J_ushr, J_max, J_min, J_abs, J_b0, ↓b0_ite, ↓b0_ite2, b0_ite, bI_r, bV_r, b01_ite, ite_true, ite_false, rZ_b, K_l, J_long, M_in, I10, h7, eq_self, a1, b1, c2]
          rw [if_pos hl8.2, b2, bV_r]
          have j3 : JL (rs s2 35 (ru (s2 35) 3 (l + 1))) m2 w2 := JL_s b3 (fun o ho => rs_ne (by omega))
          have f3 : FC s2 (rs s2 35 (ru (s2 35) 3 (l + 1))) := fun o ho => rs_ne (by omega)
          refine LsR.tr (FC.trans (FC.trans a4 b4) f3) (FMm.trans a5 b5) (ih (l + 1) _ m2 w2 (by omega) (by omega) j3 ?_ (by rw [rs_same, ru_same]) c3 (LnI_fr c5 (fun o o1 o2 => rs_ne (by omega)) rfl rfl) a (b + 1) (by omega) (by omega))
          unfold HdS at *
          rw [rs_same, ru_ne (by decide), ru_ne (by decide), ru_ne (by decide), rs_ne (by decide)]
          exact c1
    · exact stop l s m w' (by omega) h hd h35 h33 hln (fun q => h7 q.1) a b
end LNS
