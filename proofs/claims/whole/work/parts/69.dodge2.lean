/-! dodging, both sides -/
section DH
variable {z y : Nat} {g g' : XH} {w w' : Int64} {s s' s0 s1 s2 m m' m0 m1 m2 : CT} {G W W' V W1 row row' r0 nm lo lg sn f : Int → Int} {wd hg mt c i j l n p v t k x xx yy N q o to : Int} {a b : Nat} {h : XH}
/-- the world when a label has made way -/
def dgW (W : Int → Int) (c p o to : Int) : Int → Int := ru (ru (ru W (184 + o) (-2)) (184 + c) p) (184 + o) to
theorem why_cond (h7 : whyP lo lg row wd hg c p = -7) : ¬offP wd hg c p (lg c) ∧ ¬onLn lo (fr c p (lg c)) (lg c) := by
  by_cases h1 : offP wd hg c p (lg c)
  · rw [why_off h1] at h7; omega
  · by_cases h2 : onLn lo (fr c p (lg c)) (lg c)
    · rw [why_ln h1 h2] at h7; omega
    · exact ⟨h1, h2⟩
theorem C_dg41 (hz : Bsz G wd hg n) (hH : Hdr wd hg mt n) (hP : PlanI s wd hg mt n nm W 6) (hsG : sameL G W) (hHi : (0 ≤ s 66 0 ∧ s 66 0 ≤ 8) ∧ 0 ≤ s 66 1 ∧ s 66 1 < 8) (hI : LabI G wd hg n W row s) (hc : 0 ≤ c ∧ c < 1600) (hp : 0 ≤ p ∧ p < 8) (hl : lbl W c < 0) (hpl : 0 < SN G n c) (ho : 0 ≤ o ∧ o < 1600) (h7 : whyP (LO G n) (LN G n) row wd hg c p = -7) (hs : sole row (fr c p (LN G n c)) (LN G n c) o) (hlo : 0 ≤ lbl W o) (hpo : 0 < SN G n o) (hto : 0 ≤ to ∧ to < 8) (hw0 : whyP (LO G n) (LN G n) (row2 (LN G n) W row c o p) wd hg o to = 0) : ∃ s1 s' row', qD_pushAside_41 z (J c) (J p) (J o) (J to) (hi z TD g w s) = rI (J p) (hi z TD g w s') ∧ ((∀ x, x ≠ 66 → (x < 68 + 29 * (s 66 1).toNat ∨ 68 + 29 * (s 66 1).toNat + 28 < x) → s1 x = s x) ∧ s1 66 0 = min (s 66 0 + 1) 8 ∧ s1 66 1 = (s 66 1 + 1) % 8 ∧ PlanI s1 wd hg mt n nm W (68 + 29 * (s 66 1).toNat)) ∧ (∀ x, x ≠ 8 → x ≠ 9 → x ≠ 10 → x ≠ 306 → s' x = s1 x) ∧ LabI G wd hg n (dgW W c p o to) row' s' := by
  have hn := hH.2.2.2
  have hne : c ≠ o := fun e => by rw [e] at hl; omega
  obtain ⟨s1, e1, p1, p2, p3, p4⟩ := C_push (z := z) (g := g) (w := w) hn hP hHi.1 hHi.2
  have hI1 := LabI_fr hI (s' := s1) (fun x hx => p1 x (by omega) (by omega))
  obtain ⟨s2, a1, a2, a3⟩ := C_take1 (z := z) (g := g) (w := w) hz hI1 ho hlo
  have hcd := why_cond h7
  have hf := sole_free hz.1 hz.2.1 hI.2.1 hc hcd.1 hs
  have hl2 : lbl (ru W (184 + o) (-2)) c < 0 := by rw [lbl_ru ho.1 hc.1, if_neg hne]; exact hl
  obtain ⟨s3, b1, b2, b3⟩ := C_put0 (z := z) (g := g) (w := w) hz a3 hc hl2 hp hpl (why_0 hcd.1 hcd.2 hf)
  have hl3 : lbl (ru (ru W (184 + o) (-2)) (184 + c) p) o < 0 := by
    rw [lbl_ru hc.1 ho.1, if_neg (fun e => hne e.symm), lbl_ru ho.1 ho.1, if_pos rfl]
    omega
  obtain ⟨s4, c1, c2, c3⟩ := C_put0 (z := z) (g := g) (w := w) hz b3 ho hl3 hto hpo hw0
  refine ⟨s1, s4, _, ?_, ⟨p1, p2, p3, p4⟩, fun x x1 x2 x3 x4 => by rw [c2 x x1 x2 x3 x4, b2 x x1 x2 x3 x4, a2 x x1 x2 x3 x4], c3⟩
  unfold qD_pushAside_41
  simp (disch := omega) only [↓gR_D0, ↓gR_D1, ↓gR_D2, ↓gR_D3, ↓gR_D4, ↓gR_D5, ↓gR_D6, ↓gR_D7, ↓gR_D8, ↓gR_D9, ↓gR_D10, ↓gI_D11, ↓pV_D11, ↓isO_D, ↓gI_T0, ↓pV_T0, ↓gR_T1, ↓isO_T, ↓rd_T2, ↓wr_T2, ↓gI_U0, ↓pV_U0, ↓gR_U1, ↓isO_U, ↓rd_U2, ↓wr_U2, ↓gI_Ps0, ↓pV_Ps0, ↓gI_Ps1, ↓pV_Ps1, ↓gI_Ps2, ↓pV_Ps2, ↓gI_Ps3, ↓pV_Ps3, ↓gI_Ps4, ↓pV_Ps4, ↓isO_Ps, ↓gI_N0, ↓pV_N0, ↓gI_N1, ↓pV_N1, ↓gI_N2, ↓pV_N2, ↓gI_N3, ↓pV_N3, ↓gR_N4, ↓gR_N5, ↓isO_N, ↓rd_NL, ↓gI_NB0, ↓pV_NB0, ↓gR_NB1, ↓gR_NB2, ↓isO_NB, ↓rd_NC, ↓wr_NC, ↓ln_NC, ↓rd_NP, ↓wr_NP, ↓ln_NP, ↓gI_V0, ↓pV_V0, ↓gI_V1, ↓pV_V1, ↓gI_V2, ↓pV_V2, ↓gI_V3, ↓pV_V3, ↓gR_V4, ↓gR_V5, ↓isO_V, ↓rd_VL, ↓gI_VB0, ↓pV_VB0, ↓gR_VB1, ↓gR_VB2, ↓isO_VB, ↓rd_VC, ↓wr_VC, ↓ln_VC, ↓rd_VP, ↓wr_VP, ↓ln_VP, ↓rd_SL, ↓rd_KP, ↓wr_KP, ↓gI_H0, ↓pV_H0, ↓gI_H1, ↓pV_H1, ↓gR_H2, ↓isO_H, ↓rd_HP, ↓gI_B0, ↓pV_B0, ↓gI_B1, ↓pV_B1, ↓gR_B2, ↓gR_B3, ↓gR_B4, ↓gR_B5, ↓gR_B6, ↓gR_B7, ↓gR_B8, ↓isO_B, ↓rd_B301, ↓wr_B301, ↓ln_B301, ↓rd_B302, ↓wr_B302, ↓ln_B302, ↓rd_B303, ↓wr_B303, ↓ln_B303, ↓rd_B304, ↓wr_B304, ↓ln_B304, ↓rd_B305, ↓wr_B305, ↓ln_B305, ↓rd_B306, ↓wr_B306, ↓ln_B306, ↓rd_B307, ↓wr_B307, ↓ln_B307, ↓gR_Tv, ↓isO_Tv, ↓rd_Tv9, ↓wr_Tv9, ↓ln_Tv9, pV_D11, pV_T0, rd_T2, wr_T2, pV_U0, rd_U2, wr_U2, pV_Ps0, pV_Ps1, pV_Ps2, pV_Ps3, pV_Ps4, pV_N0, pV_N1, pV_N2, pV_N3, rd_NL, pV_NB0, rd_NC, wr_NC, rd_NP, wr_NP, pV_V0, pV_V1, pV_V2, pV_V3, rd_VL, pV_VB0, rd_VC, wr_VC, rd_VP, wr_VP, rd_SL, rd_KP, wr_KP, pV_H0, pV_H1, rd_HP, pV_B0, pV_B1, rd_B301, wr_B301, rd_B302, wr_B302, rd_B303, wr_B303, rd_B304, wr_B304, rd_B305, wr_B305, rd_B306, wr_B306, rd_B307, wr_B307, rd_Tv9, wr_Tv9, J_l, J_neg, J_add, J_sub, J_mul, J_lt, J_le, J_eq, J_div2, J_rem2, J_shl1, J_orp, J_or, J_and, J_shr, J_ushr, J_max, J_min, J_abs, J_b0, ↓b0_ite, ↓b0_ite2, b0_ite, bI_r, bV_r, b01_ite, ite_true, ite_false, rZ_b, K_l, J_long, M_in, e1, a1, b1, c1]
theorem C_pushAside (hz : Bsz G wd hg n) (hH : Hdr wd hg mt n) (hP : PlanI s wd hg mt n nm W 6) (hsG : sameL G W) (hHi : (0 ≤ s 66 0 ∧ s 66 0 ≤ 8) ∧ 0 ≤ s 66 1 ∧ s 66 1 < 8) (hI : LabI G wd hg n W row s) (hc : 0 ≤ c ∧ c < 1600) (hl : lbl W c < 0) (hpl : 0 < SN G n c) : ∃ sb s', qD_pushAside z (J c) (hi z TD g w s) = rI (J (ff (dgP (LO G n) (LN G n) W row wd hg c))) (hi z TD g w s') ∧ (∀ x, x ≠ 306 → sb x = s x) ∧ MkR (sb 306) row ∧ ((ff (dgP (LO G n) (LN G n) W row wd hg c) = -2 ∧ s' = sb) ∨ (0 ≤ ff (dgP (LO G n) (LN G n) W row wd hg c) ∧ ∃ s1 row', ((∀ x, x ≠ 66 → (x < 68 + 29 * (sb 66 1).toNat ∨ 68 + 29 * (sb 66 1).toNat + 28 < x) → s1 x = sb x) ∧ s1 66 0 = min (sb 66 0 + 1) 8 ∧ s1 66 1 = (sb 66 1 + 1) % 8 ∧ PlanI s1 wd hg mt n nm W (68 + 29 * (sb 66 1).toNat)) ∧ (∀ x, x ≠ 8 → x ≠ 9 → x ≠ 10 → x ≠ 306 → s' x = s1 x) ∧ LabI G wd hg n (dgW W c (ff (dgP (LO G n) (LN G n) W row wd hg c)) (soO row (fr c (ff (dgP (LO G n) (LN G n) W row wd hg c)) (LN G n c)) (LN G n c)) (dgT (LO G n) (LN G n) W row wd hg c (ff (dgP (LO G n) (LN G n) W row wd hg c)))) row' s')) := by
  have hn := hH.2.2.2
  generalize hF : dgP (LO G n) (LN G n) W row wd hg c = F
  have hFv : ∀ p, F p = if 0 ≤ dgT (LO G n) (LN G n) W row wd hg c p then 0 else 1 := fun p => by rw [← hF]; rfl
  refine loopI (S := Int × CT) (fun N q => qD_pushAside_2 N z (J c) (J q.1) (hi z TD g w q.2)) (fun X => ∃ sb s', X = rI (J (ff F)) (hi z TD g w s') ∧ (∀ x, x ≠ 306 → sb x = s x) ∧ MkR (sb 306) row ∧ ((ff F = -2 ∧ s' = sb) ∨ (0 ≤ ff F ∧ ∃ s1 row', ((∀ x, x ≠ 66 → (x < 68 + 29 * (sb 66 1).toNat ∨ 68 + 29 * (sb 66 1).toNat + 28 < x) → s1 x = sb x) ∧ s1 66 0 = min (sb 66 0 + 1) 8 ∧ s1 66 1 = (sb 66 1 + 1) % 8 ∧ PlanI s1 wd hg mt n nm W (68 + 29 * (sb 66 1).toNat)) ∧ (∀ x, x ≠ 8 → x ≠ 9 → x ≠ 10 → x ≠ 306 → s' x = s1 x) ∧ LabI G wd hg n (dgW W c (ff F) (soO row (fr c (ff F) (LN G n c)) (LN G n c)) (dgT (LO G n) (LN G n) W row wd hg c (ff F))) row' s'))) (fun q => (0 ≤ q.1 ∧ q.1 ≤ 8) ∧ ffN F (8 - q.1).toNat = ff F ∧ (∀ x, x ≠ 306 → q.2 x = s x) ∧ MkR (q.2 306) row) (fun q => 8 - q.1) (by intro q hq; omega) (fun N q hq ih => ?_) (0, s) ⟨⟨by show (0 : Int) ≤ 0; omega, by show (0 : Int) ≤ 8; omega⟩, rfl, fun _ _ => rfl, hI.2.2.2.2.2⟩ (by show (8 : Int) - 0 < 20000; omega)
  obtain ⟨p, u⟩ := q
  obtain ⟨⟨hp, hp2⟩, hff, hu, hM⟩ := hq
  change 0 ≤ p at hp
  change p ≤ 8 at hp2
  change ffN F (8 - p).toNat = ff F at hff
  change ∀ x, x ≠ 306 → u x = s x at hu
  change MkR (u 306) row at hM
  show ∃ sb s', qD_pushAside_2_b (qD_pushAside_2 N) z (J c) (J p) (hi z TD g w u) = _ ∧ _
  have hIu : LabI G wd hg n W row u := ⟨hI.1, hI.2.1, LbV_fr hI.2.2.1 (hu 8 (by decide)) (hu 9 (by decide)) (hu 10 (by decide)), BdI_fr hI.2.2.2 (fun o _ _ _ o4 => hu o o4) hM⟩
  unfold qD_pushAside_2_b qD_pushAside_34
  by_cases h8 : p < 8
  · rw [ffN_s ⟨hp, h8⟩] at hff
    have hgo : F p ≠ 0 → ∀ u', (∀ x, x ≠ 306 → u' x = s x) → MkR (u' 306) row → ∃ sb s', qD_pushAside_2 N z (J c) (J (p + 1)) (hi z TD g w u') = rI (J (ff F)) (hi z TD g w s') ∧ (∀ x, x ≠ 306 → sb x = s x) ∧ MkR (sb 306) row ∧ ((ff F = -2 ∧ s' = sb) ∨ (0 ≤ ff F ∧ ∃ s1 row', ((∀ x, x ≠ 66 → (x < 68 + 29 * (sb 66 1).toNat ∨ 68 + 29 * (sb 66 1).toNat + 28 < x) → s1 x = sb x) ∧ s1 66 0 = min (sb 66 0 + 1) 8 ∧ s1 66 1 = (sb 66 1 + 1) % 8 ∧ PlanI s1 wd hg mt n nm W (68 + 29 * (sb 66 1).toNat)) ∧ (∀ x, x ≠ 8 → x ≠ 9 → x ≠ 10 → x ≠ 306 → s' x = s1 x) ∧ LabI G wd hg n (dgW W c (ff F) (soO row (fr c (ff F) (LN G n c)) (LN G n c)) (dgT (LO G n) (LN G n) W row wd hg c (ff F))) row' s')) := by
      intro h0 u' hu' hM'
      rw [if_neg h0] at hff
      exact ih (p + 1, u') ⟨⟨by show 0 ≤ p + 1; omega, by show p + 1 ≤ 8; omega⟩, hff, hu', hM'⟩ (by show 8 - (p + 1) < 8 - p; omega)
    obtain ⟨r, e1, rb, e2⟩ := C_dg1 (z := z) (g := g) (w := w) (p := p) hz hIu hc ⟨hp, h8⟩ hl hpl
    simp (disch := omega) only [↓gR_D0, ↓gR_D1, ↓gR_D2, ↓gR_D3, ↓gR_D4, ↓gR_D5, ↓gR_D6, ↓gR_D7, ↓gR_D8, ↓gR_D9, ↓gR_D10, ↓gI_D11, ↓pV_D11, ↓isO_D, ↓gI_T0, ↓pV_T0, ↓gR_T1, ↓isO_T, ↓rd_T2, ↓wr_T2, ↓gI_U0, ↓pV_U0, ↓gR_U1, ↓isO_U, ↓rd_U2, ↓wr_U2, ↓gI_Ps0, ↓pV_Ps0, ↓gI_Ps1, ↓pV_Ps1, ↓gI_Ps2, ↓pV_Ps2, ↓gI_Ps3, ↓pV_Ps3, ↓gI_Ps4, ↓pV_Ps4, ↓isO_Ps, ↓gI_N0, ↓pV_N0, ↓gI_N1, ↓pV_N1, ↓gI_N2, ↓pV_N2, ↓gI_N3, ↓pV_N3, ↓gR_N4, ↓gR_N5, ↓isO_N, ↓rd_NL, ↓gI_NB0, ↓pV_NB0, ↓gR_NB1, ↓gR_NB2, ↓isO_NB, ↓rd_NC, ↓wr_NC, ↓ln_NC, ↓rd_NP, ↓wr_NP, ↓ln_NP, ↓gI_V0, ↓pV_V0, ↓gI_V1, ↓pV_V1, ↓gI_V2, ↓pV_V2, ↓gI_V3, ↓pV_V3, ↓gR_V4, ↓gR_V5, ↓isO_V, ↓rd_VL, ↓gI_VB0, ↓pV_VB0, ↓gR_VB1, ↓gR_VB2, ↓isO_VB, ↓rd_VC, ↓wr_VC, ↓ln_VC, ↓rd_VP, ↓wr_VP, ↓ln_VP, ↓rd_SL, ↓rd_KP, ↓wr_KP, ↓gI_H0, ↓pV_H0, ↓gI_H1, ↓pV_H1, ↓gR_H2, ↓isO_H, ↓rd_HP, ↓gI_B0, ↓pV_B0, ↓gI_B1, ↓pV_B1, ↓gR_B2, ↓gR_B3, ↓gR_B4, ↓gR_B5, ↓gR_B6, ↓gR_B7, ↓gR_B8, ↓isO_B, ↓rd_B301, ↓wr_B301, ↓ln_B301, ↓rd_B302, ↓wr_B302, ↓ln_B302, ↓rd_B303, ↓wr_B303, ↓ln_B303, ↓rd_B304, ↓wr_B304, ↓ln_B304, ↓rd_B305, ↓wr_B305, ↓ln_B305, ↓rd_B306, ↓wr_B306, ↓ln_B306, ↓rd_B307, ↓wr_B307, ↓ln_B307, ↓gR_Tv, ↓isO_Tv, ↓rd_Tv9, ↓wr_Tv9, ↓ln_Tv9, pV_D11, pV_T0, rd_T2, wr_T2, pV_U0, rd_U2, wr_U2, pV_Ps0, pV_Ps1, pV_Ps2, pV_Ps3, pV_Ps4, pV_N0, pV_N1, pV_N2, pV_N3, rd_NL, pV_NB0, rd_NC, wr_NC, rd_NP, wr_NP, pV_V0, pV_V1, pV_V2, pV_V3, rd_VL, pV_VB0, rd_VC, wr_VC, rd_VP, wr_VP, rd_SL, rd_KP, wr_KP, pV_H0, pV_H1, rd_HP, pV_B0, pV_B1, rd_B301, wr_B301, rd_B302, wr_B302, rd_B303, wr_B303, rd_B304, wr_B304, rd_B305, wr_B305, rd_B306, wr_B306, rd_B307, wr_B307, rd_Tv9, wr_Tv9, J_l, J_neg, J_add, J_sub, J_mul, J_lt, J_le, J_eq, J_div2, J_rem2, J_shl1, J_orp, J_or, J_and, J_shr, J_ushr, J_max, J_min, J_abs, J_b0, ↓b0_ite, ↓b0_ite2, b0_ite, bI_r, bV_r, b01_ite, ite_true, ite_false, rZ_b, K_l, J_long, M_in, if_pos, e1]
    rcases e2 with ⟨r1, r2, r3, r4⟩ | ⟨r1, r2⟩
    · obtain ⟨⟨q1, q2⟩, u', q3, q4, q5⟩ := C_refuge (z := z) (g := g) (w := w) (p := p) (o := r) hz hIu hc ⟨hp, h8⟩ hl hpl ⟨r1, by omega⟩ r2 r3
      have eT : dgT (LO G n) (LN G n) W row wd hg c p = ff (whyP (LO G n) (LN G n) (row2 (LN G n) W row c r p) wd hg r) := by
        unfold dgT
        rw [r4, if_pos ⟨r2, r1⟩]
      have fb := ff_bd (f := whyP (LO G n) (LN G n) (row2 (LN G n) W row c r p) wd hg r)
      rw [if_neg (show ¬r < 0 by omega)]
      simp (disch := omega) only [↓gR_D0, ↓gR_D1, ↓gR_D2, ↓gR_D3, ↓gR_D4, ↓gR_D5, ↓gR_D6, ↓gR_D7, ↓gR_D8, ↓gR_D9, ↓gR_D10, ↓gI_D11, ↓pV_D11, ↓isO_D, ↓gI_T0, ↓pV_T0, ↓gR_T1, ↓isO_T, ↓rd_T2, ↓wr_T2, ↓gI_U0, ↓pV_U0, ↓gR_U1, ↓isO_U, ↓rd_U2, ↓wr_U2, ↓gI_Ps0, ↓pV_Ps0, ↓gI_Ps1, ↓pV_Ps1, ↓gI_Ps2, ↓pV_Ps2, ↓gI_Ps3, ↓pV_Ps3, ↓gI_Ps4, ↓pV_Ps4, ↓isO_Ps, ↓gI_N0, ↓pV_N0, ↓gI_N1, ↓pV_N1, ↓gI_N2, ↓pV_N2, ↓gI_N3, ↓pV_N3, ↓gR_N4, ↓gR_N5, ↓isO_N, ↓rd_NL, ↓gI_NB0, ↓pV_NB0, ↓gR_NB1, ↓gR_NB2, ↓isO_NB, ↓rd_NC, ↓wr_NC, ↓ln_NC, ↓rd_NP, ↓wr_NP, ↓ln_NP, ↓gI_V0, ↓pV_V0, ↓gI_V1, ↓pV_V1, ↓gI_V2, ↓pV_V2, ↓gI_V3, ↓pV_V3, ↓gR_V4, ↓gR_V5, ↓isO_V, ↓rd_VL, ↓gI_VB0, ↓pV_VB0, ↓gR_VB1, ↓gR_VB2, ↓isO_VB, ↓rd_VC, ↓wr_VC, ↓ln_VC, ↓rd_VP, ↓wr_VP, ↓ln_VP, ↓rd_SL, ↓rd_KP, ↓wr_KP, ↓gI_H0, ↓pV_H0, ↓gI_H1, ↓pV_H1, ↓gR_H2, ↓isO_H, ↓rd_HP, ↓gI_B0, ↓pV_B0, ↓gI_B1, ↓pV_B1, ↓gR_B2, ↓gR_B3, ↓gR_B4, ↓gR_B5, ↓gR_B6, ↓gR_B7, ↓gR_B8, ↓isO_B, ↓rd_B301, ↓wr_B301, ↓ln_B301, ↓rd_B302, ↓wr_B302, ↓ln_B302, ↓rd_B303, ↓wr_B303, ↓ln_B303, ↓rd_B304, ↓wr_B304, ↓ln_B304, ↓rd_B305, ↓wr_B305, ↓ln_B305, ↓rd_B306, ↓wr_B306, ↓ln_B306, ↓rd_B307, ↓wr_B307, ↓ln_B307, ↓gR_Tv, ↓isO_Tv, ↓rd_Tv9, ↓wr_Tv9, ↓ln_Tv9, pV_D11, pV_T0, rd_T2, wr_T2, pV_U0, rd_U2, wr_U2, pV_Ps0, pV_Ps1, pV_Ps2, pV_Ps3, pV_Ps4, pV_N0, pV_N1, pV_N2, pV_N3, rd_NL, pV_NB0, rd_NC, wr_NC, rd_NP, wr_NP, pV_V0, pV_V1, pV_V2, pV_V3, rd_VL, pV_VB0, rd_VC, wr_VC, rd_VP, wr_VP, rd_SL, rd_KP, wr_KP, pV_H0, pV_H1, rd_HP, pV_B0, pV_B1, rd_B301, wr_B301, rd_B302, wr_B302, rd_B303, wr_B303, rd_B304, wr_B304, rd_B305, wr_B305, rd_B306, wr_B306, rd_B307, wr_B307, rd_Tv9, wr_Tv9, J_l, J_neg, J_add, J_sub, J_mul, J_lt, J_le, J_eq, J_div2, J_rem2, J_shl1, J_orp, J_or, J_and, J_shr, J_ushr, J_max, J_min, J_abs, J_b0, ↓b0_ite, ↓b0_ite2, b0_ite, bI_r, bV_r, b01_ite, ite_true, ite_false, rZ_b, K_l, J_long, M_in, q3]
      by_cases hneg : ff (whyP (LO G n) (LN G n) (row2 (LN G n) W row c r p) wd hg r) < 0
      · rw [if_pos hneg]
        exact hgo (by rw [hFv, eT, if_neg (by omega)]; decide) u' (fun x hx => by rw [q4 x hx, hu x hx]) q5
      · rw [if_neg hneg]
        have hF0 : F p = 0 := by rw [hFv, eT, if_pos (by omega)]
        rw [if_pos hF0] at hff
        have hff2 := ff_free (f := whyP (LO G n) (LN G n) (row2 (LN G n) W row c r p) wd hg r) (by omega)
        have hu' : ∀ x, x ≠ 306 → u' x = s x := fun x hx => by rw [q4 x hx, hu x hx]
        have hIu' : LabI G wd hg n W row u' := ⟨hI.1, hI.2.1, LbV_fr hI.2.2.1 (hu' 8 (by decide)) (hu' 9 (by decide)) (hu' 10 (by decide)), BdI_fr hI.2.2.2 (fun o _ _ _ o4 => hu' o o4) q5⟩
        obtain ⟨s1, s2, rw2, d1, d2, d3, d4⟩ := C_dg41 (z := z) (g := g) (w := w) (s := u') (p := p) (o := r) (to := ff (whyP (LO G n) (LN G n) (row2 (LN G n) W row c r p) wd hg r)) hz hH (PlanI_fr hn.2 (fun o o1 o2 => hu' o (by omega)) hP) hsG (by rw [hu' 66 (by decide)]; exact hHi) hIu' hc ⟨hp, h8⟩ hl hpl ⟨r1, by omega⟩ r2 r3 q1 q2 hff2.1 hff2.2
        rw [← hff]
        refine ⟨u', s2, d1, hu', q5, Or.inr ⟨hp, s1, rw2, d2, d3, ?_⟩⟩
        rw [r4, eT]
        exact d4
    · rw [if_pos (show r < 0 by omega)]
      try simp (disch := omega) only [↓gR_D0, ↓gR_D1, ↓gR_D2, ↓gR_D3, ↓gR_D4, ↓gR_D5, ↓gR_D6, ↓gR_D7, ↓gR_D8, ↓gR_D9, ↓gR_D10, ↓gI_D11, ↓pV_D11, ↓isO_D, ↓gI_T0, ↓pV_T0, ↓gR_T1, ↓isO_T, ↓rd_T2, ↓wr_T2, ↓gI_U0, ↓pV_U0, ↓gR_U1, ↓isO_U, ↓rd_U2, ↓wr_U2, ↓gI_Ps0, ↓pV_Ps0, ↓gI_Ps1, ↓pV_Ps1, ↓gI_Ps2, ↓pV_Ps2, ↓gI_Ps3, ↓pV_Ps3, ↓gI_Ps4, ↓pV_Ps4, ↓isO_Ps, ↓gI_N0, ↓pV_N0, ↓gI_N1, ↓pV_N1, ↓gI_N2, ↓pV_N2, ↓gI_N3, ↓pV_N3, ↓gR_N4, ↓gR_N5, ↓isO_N, ↓rd_NL, ↓gI_NB0, ↓pV_NB0, ↓gR_NB1, ↓gR_NB2, ↓isO_NB, ↓rd_NC, ↓wr_NC, ↓ln_NC, ↓rd_NP, ↓wr_NP, ↓ln_NP, ↓gI_V0, ↓pV_V0, ↓gI_V1, ↓pV_V1, ↓gI_V2, ↓pV_V2, ↓gI_V3, ↓pV_V3, ↓gR_V4, ↓gR_V5, ↓isO_V, ↓rd_VL, ↓gI_VB0, ↓pV_VB0, ↓gR_VB1, ↓gR_VB2, ↓isO_VB, ↓rd_VC, ↓wr_VC, ↓ln_VC, ↓rd_VP, ↓wr_VP, ↓ln_VP, ↓rd_SL, ↓rd_KP, ↓wr_KP, ↓gI_H0, ↓pV_H0, ↓gI_H1, ↓pV_H1, ↓gR_H2, ↓isO_H, ↓rd_HP, ↓gI_B0, ↓pV_B0, ↓gI_B1, ↓pV_B1, ↓gR_B2, ↓gR_B3, ↓gR_B4, ↓gR_B5, ↓gR_B6, ↓gR_B7, ↓gR_B8, ↓isO_B, ↓rd_B301, ↓wr_B301, ↓ln_B301, ↓rd_B302, ↓wr_B302, ↓ln_B302, ↓rd_B303, ↓wr_B303, ↓ln_B303, ↓rd_B304, ↓wr_B304, ↓ln_B304, ↓rd_B305, ↓wr_B305, ↓ln_B305, ↓rd_B306, ↓wr_B306, ↓ln_B306, ↓rd_B307, ↓wr_B307, ↓ln_B307, ↓gR_Tv, ↓isO_Tv, ↓rd_Tv9, ↓wr_Tv9, ↓ln_Tv9, pV_D11, pV_T0, rd_T2, wr_T2, pV_U0, rd_U2, wr_U2, pV_Ps0, pV_Ps1, pV_Ps2, pV_Ps3, pV_Ps4, pV_N0, pV_N1, pV_N2, pV_N3, rd_NL, pV_NB0, rd_NC, wr_NC, rd_NP, wr_NP, pV_V0, pV_V1, pV_V2, pV_V3, rd_VL, pV_VB0, rd_VC, wr_VC, rd_VP, wr_VP, rd_SL, rd_KP, wr_KP, pV_H0, pV_H1, rd_HP, pV_B0, pV_B1, rd_B301, wr_B301, rd_B302, wr_B302, rd_B303, wr_B303, rd_B304, wr_B304, rd_B305, wr_B305, rd_B306, wr_B306, rd_B307, wr_B307, rd_Tv9, wr_Tv9, J_l, J_neg, J_add, J_sub, J_mul, J_lt, J_le, J_eq, J_div2, J_rem2, J_shl1, J_orp, J_or, J_and, J_shr, J_ushr, J_max, J_min, J_abs, J_b0, ↓b0_ite, ↓b0_ite2, b0_ite, bI_r, bV_r, b01_ite, ite_true, ite_false, rZ_b, K_l, J_long, M_in, if_pos]
      exact hgo (by rw [hFv, r2, if_neg (by omega)]; decide) u hu hM
  · have e8 : p = 8 := by omega
    subst e8
    simp (disch := omega) only [J_l, J_neg, J_add, J_sub, J_mul, J_lt, J_le, J_eq, J_div2, J_rem2, J_shl1, J_orp, J_or, J_and, J_shr, J_ushr, J_max, J_min, J_abs, J_b0, ↓b0_ite, ↓b0_ite2, b0_ite, bI_r, bV_r, b01_ite, ite_true, ite_false, rZ_b, K_l, J_long, M_in, if_neg]
    have : ff F = -2 := hff.symm
    rw [this]
    exact ⟨u, u, rfl, hu, hM, Or.inl ⟨rfl, rfl⟩⟩
/-! the model's -/
theorem dgT_congr (hw : 4 ≤ wd ∧ wd ≤ 40) (hh : 4 ≤ hg ∧ hg ≤ 40) (hc : 0 ≤ c ∧ c < 1600) (hO : Own lg W row 1600) (hO' : Own lg W row' 1600) : dgT lo lg W row wd hg c p = dgT lo lg W row' wd hg c p ∧ (whyP lo lg row wd hg c p = -7 → soO row (fr c p (lg c)) (lg c) = soO row' (fr c p (lg c)) (lg c)) := by
  have he := Own_uniq hO hO'
  have e1 : whyP lo lg row wd hg c p = whyP lo lg row' wd hg c p := why_congr hc hw hh (fun _ _ _ => Iff.rfl) rfl (fun i i1 i2 => by unfold oth; rw [he i i1 i2])
  by_cases h7 : whyP lo lg row wd hg c p = -7
  · have hcd := why_cond h7
    have hin : ∀ i, fr c p (lg c) ≤ i → i < fr c p (lg c) + lg c → row i = row' i := fun i i1 i2 => by
      have := fr_in hc hw hh hcd.1 i1 i2
      exact he i this.1 this.2
    have es : soO row (fr c p (lg c)) (lg c) = soO row' (fr c p (lg c)) (lg c) := by
      by_cases hex : ∃ o, 0 ≤ o ∧ sole row (fr c p (lg c)) (lg c) o
      · obtain ⟨o, o1, o2⟩ := hex
        rw [soO_of o2 o1]
        refine (soO_of ⟨?_, fun i i1 i2 i3 => ?_⟩ o1).symm
        · obtain ⟨⟨i, i1, i2, i3⟩, _⟩ := o2
          exact ⟨i, i1, i2, by rw [← hin i i1 i2]; exact i3⟩
        · rw [← hin i i1 i2] at i3 ⊢
          exact o2.2 i i1 i2 i3
      · rw [soO_none (fun o o1 o2 => hex ⟨o, o1, o2⟩), soO_none (fun o o1 o2 => hex ⟨o, o1, ?_⟩)]
        refine ⟨?_, fun i i1 i2 i3 => ?_⟩
        · obtain ⟨⟨i, i1, i2, i3⟩, _⟩ := o2
          exact ⟨i, i1, i2, by rw [hin i i1 i2]; exact i3⟩
        · rw [hin i i1 i2] at i3 ⊢
          exact o2.2 i i1 i2 i3
    refine ⟨?_, fun _ => es⟩
    unfold dgT
    rw [← e1, ← es]
    by_cases hs : 0 ≤ soO row (fr c p (lg c)) (lg c)
    · rw [if_pos ⟨h7, hs⟩, if_pos ⟨h7, hs⟩]
      by_cases hlt : soO row (fr c p (lg c)) (lg c) < 1600
      · refine ff_congr fun q _ _ => why_congr ⟨hs, hlt⟩ hw hh (fun _ _ _ => Iff.rfl) rfl (fun i i1 i2 => ?_)
        unfold oth row2 pnt
        rw [he i i1 i2]
      · exfalso
        by_cases hex : ∃ o, 0 ≤ o ∧ sole row (fr c p (lg c)) (lg c) o
        · obtain ⟨o, o1, o2⟩ := hex
          rw [soO_of o2 o1] at hlt
          obtain ⟨⟨i, i1, i2, i3⟩, _⟩ := o2
          have hi := fr_in hc hw hh hcd.1 i1 i2
          have := Own_bd hO (by omega) i hi.1 hi.2
          omega
        · rw [soO_none (fun o o1 o2 => hex ⟨o, o1, o2⟩)] at hs
          omega
    · rw [if_neg (fun e => hs e.2), if_neg (fun e => hs e.2)]
  · refine ⟨?_, fun e => absurd e h7⟩
    unfold dgT
    rw [← e1, if_neg (fun e => h7 e.1), if_neg (fun e => h7 e.1)]
theorem dgT_some (h7 : whyP lo lg row wd hg c p = -7) (hs : sole row (fr c p (lg c)) (lg c) o) (h0 : 0 ≤ o) : dgT lo lg W row wd hg c p = ff (whyP lo lg (row2 lg W row c o p) wd hg o) := by
  unfold dgT
  rw [soO_of hs h0, if_pos ⟨h7, h0⟩]
theorem LabM_fr (hI : LabM G wd hg n W row m) (hf : ∀ o, o = 10 ∨ o = 12 ∨ o = 14 → m' o = m o) (h0 : m' 0 3 = m 0 3 ∧ m' 0 4 = m 0 4) (h3 : m' 3 = W') (h15 : m' 15 = row') (hG : GN (LO G n) (LN G n) (SN G n) wd hg W' 1600) (hO : Own (LN G n) W' row' 1600) : LabM G wd hg n W' row' m' := by
  obtain ⟨a1, a2, a3, a4, a5, a6⟩ := hI
  refine ⟨by rw [h0.1, h0.2]; exact a1, ?_, h3, h15, hG, hO⟩
  rw [hf 10 (by decide), hf 12 (by decide), hf 14 (by decide)]
  exact a2
theorem M_makesWay (hz : Bsz G wd hg n) (hI : LabM G wd hg n W row m) (hc : 0 ≤ c ∧ c < 1600) (hp : 0 ≤ p ∧ p < 8) (hl : lbl W c < 0) (hpl : 0 < SN G n c) : ∃ m', qM_makesWay y (J c) (J p) (hi y TM g w m) = rI (J (dgT (LO G n) (LN G n) W row wd hg c p)) (hi y TM g w m') ∧ (∀ o, o ≠ 0 → o ≠ 3 → o ≠ 15 → m' o = m o) ∧ (∀ j, j ≠ 22 → m' 0 j = m 0 j) ∧ ((dgT (LO G n) (LN G n) W row wd hg c p < 0 ∧ ∃ row', LabM G wd hg n W row' m') ∨ (0 ≤ dgT (LO G n) (LN G n) W row wd hg c p ∧ m' 3 = dgW W c p (soO row (fr c p (LN G n c)) (LN G n c)) (dgT (LO G n) (LN G n) W row wd hg c p))) := by
  have hIk := hI
  obtain ⟨⟨i1, i2⟩, i3, i4, i5, i6, i7⟩ := hI
  have hLc := LN_pos (c := c) hz.lb hz.2.2.1.1 hpl
  have f14c := (i3 c hc.1 hc.2).2.2
  have hbw : 4 ≤ m 0 3 ∧ m 0 3 ≤ 40 := by rw [i1]; exact hz.1
  have hbh : 4 ≤ m 0 4 ∧ m 0 4 ≤ 40 := by rw [i2]; exact hz.2.1
  have hlo : ∀ i, 0 ≤ i → i < 1600 → 0 ≤ m 10 i ∧ m 10 i ≤ 255 := fun i a b => by rw [(i3 i a b).1]; exact LO_nn
  have e22 : o22 m (m 0 22) = m := o22_self
  have x1 := M_isOff (y := y) (g := g) (w := w) (m := m) hc hp (by rw [f14c]; omega) hbw hbh
  rw [i1, i2, f14c] at x1
  unfold qM_makesWay
  simp (disch := omega) only [↓isO_M, ↓gL_H, ↓pL_H, ↓gI_M1, ↓gI_M2, ↓gI_M3, ↓gI_M4, ↓gI_M5, ↓gI_M6, ↓gI_M13, ↓gI_M22, ↓gI_M23, ↓gI_M24, ↓gI_M25, ↓gI_M27, ↓gI_M28, ↓gI_M29, ↓gI_M30, ↓gI_M31, ↓gI_M32, ↓gI_M33, ↓gI_M34, ↓gI_M35, ↓gI_M40, ↓gI_M41, ↓gI_M42, ↓gI_M43, ↓pV_M1, ↓pV_M2, ↓pV_M3, ↓pV_M4, ↓pV_M5, ↓pV_M6, ↓pV_M13, ↓pV_M22, ↓pV_M23, ↓pV_M24, ↓pV_M25, ↓pV_M27, ↓pV_M28, ↓pV_M29, ↓pV_M30, ↓pV_M31, ↓pV_M32, ↓pV_M33, ↓pV_M34, ↓pV_M35, ↓pV_M40, ↓pV_M41, ↓pV_M42, ↓pV_M43, ↓gR_M0, ↓gR_M7, ↓gR_M8, ↓gR_M9, ↓gR_M10, ↓gR_M11, ↓gR_M12, ↓gR_M14, ↓gR_M15, ↓gR_M16, ↓gR_M17, ↓gR_M18, ↓gR_M19, ↓gR_M20, ↓gR_M21, ↓gR_M36, ↓gR_M37, ↓gR_M38, ↓gR_M39, ↓rd_M1, ↓rd_M2, ↓rd_M3, ↓rd_M4, ↓rd_M5, ↓rd_M6, ↓rd_M7, ↓rd_M8, ↓rd_M9, ↓rd_M10, ↓rd_M11, ↓rd_M12, ↓rd_M13, ↓rd_M14, ↓rd_M15, ↓rd_M16, ↓rd_M17, ↓rd_M18, ↓rd_M19, ↓wr_M1, ↓wr_M2, ↓wr_M3, ↓wr_M4, ↓wr_M5, ↓wr_M6, ↓wr_M7, ↓wr_M8, ↓wr_M9, ↓wr_M10, ↓wr_M11, ↓wr_M12, ↓wr_M13, ↓wr_M14, ↓wr_M15, ↓wr_M16, ↓wr_M17, ↓wr_M18, ↓wr_M19, pL_H, pV_M1, pV_M2, pV_M3, pV_M4, pV_M5, pV_M6, pV_M13, pV_M22, pV_M23, pV_M24, pV_M25, pV_M27, pV_M28, pV_M29, pV_M30, pV_M31, pV_M32, pV_M33, pV_M34, pV_M35, pV_M40, pV_M41, pV_M42, pV_M43, rd_M1, rd_M2, rd_M3, rd_M4, rd_M5, rd_M6, rd_M7, rd_M8, rd_M9, rd_M10, rd_M11, rd_M12, rd_M13, rd_M14, rd_M15, rd_M16, rd_M17, rd_M18, rd_M19, wr_M1, wr_M2, wr_M3, wr_M4, wr_M5, wr_M6, wr_M7, wr_M8, wr_M9, wr_M10, wr_M11, wr_M12, wr_M13, wr_M14, wr_M15, wr_M16, wr_M17, wr_M18, wr_M19, J_l, J_neg, J_add, J_sub, J_mul, J_lt, J_le, J_eq, J_div2, J_rem2, J_shl1, J_orp, J_or, J_and, J_shr, J_ushr, J_max, J_min, J_abs, J_b0, ↓b0_ite, ↓b0_ite2, b0_ite, bI_r, bV_r, b01_ite, ite_true, ite_false, rZ_b, K_l, J_long, M_in, x1]
  by_cases ho : offP wd hg c p (LN G n c)
  · rw [if_pos ho]
    have : dgT (LO G n) (LN G n) W row wd hg c p = -2 := by
      unfold dgT
      rw [if_neg (fun e => by have := why_off (lo := LO G n) (lb := row) ho; omega)]
    rw [this]
    exact ⟨m, rfl, fun _ _ _ _ => rfl, fun _ _ => rfl, Or.inl ⟨by omega, row, hIk⟩⟩
  · rw [if_neg ho]
    have ho' : ¬offP (m 0 3) (m 0 4) c p (m 14 c) := by rw [i1, i2, f14c]; exact ho
    have hin : ∀ i, fr c p (LN G n c) ≤ i → i < fr c p (LN G n c) + LN G n c → 0 ≤ i ∧ i < 1600 := fun i a b => fr_in hc hz.1 hz.2.1 ho a b
    have x2 := M_isOnLine (y := y) (g := g) (w := w) (m := m) hc hp (by rw [f14c]; omega) hbw hbh ho' hlo
    rw [f14c] at x2
    have eOn : onLn (m 10) (fr c p (LN G n c)) (LN G n c) ↔ onLn (LO G n) (fr c p (LN G n c)) (LN G n c) := by
      constructor
      · rintro ⟨i, a, b, d⟩
        have := hin i a b
        exact ⟨i, a, b, by rw [← (i3 i this.1 this.2).1]; exact d⟩
      · rintro ⟨i, a, b, d⟩
        have := hin i a b
        exact ⟨i, a, b, by rw [(i3 i this.1 this.2).1]; exact d⟩
    rw [b01_congr eOn] at x2
    simp (disch := omega) only [↓isO_M, ↓gL_H, ↓pL_H, ↓gI_M1, ↓gI_M2, ↓gI_M3, ↓gI_M4, ↓gI_M5, ↓gI_M6, ↓gI_M13, ↓gI_M22, ↓gI_M23, ↓gI_M24, ↓gI_M25, ↓gI_M27, ↓gI_M28, ↓gI_M29, ↓gI_M30, ↓gI_M31, ↓gI_M32, ↓gI_M33, ↓gI_M34, ↓gI_M35, ↓gI_M40, ↓gI_M41, ↓gI_M42, ↓gI_M43, ↓pV_M1, ↓pV_M2, ↓pV_M3, ↓pV_M4, ↓pV_M5, ↓pV_M6, ↓pV_M13, ↓pV_M22, ↓pV_M23, ↓pV_M24, ↓pV_M25, ↓pV_M27, ↓pV_M28, ↓pV_M29, ↓pV_M30, ↓pV_M31, ↓pV_M32, ↓pV_M33, ↓pV_M34, ↓pV_M35, ↓pV_M40, ↓pV_M41, ↓pV_M42, ↓pV_M43, ↓gR_M0, ↓gR_M7, ↓gR_M8, ↓gR_M9, ↓gR_M10, ↓gR_M11, ↓gR_M12, ↓gR_M14, ↓gR_M15, ↓gR_M16, ↓gR_M17, ↓gR_M18, ↓gR_M19, ↓gR_M20, ↓gR_M21, ↓gR_M36, ↓gR_M37, ↓gR_M38, ↓gR_M39, ↓rd_M1, ↓rd_M2, ↓rd_M3, ↓rd_M4, ↓rd_M5, ↓rd_M6, ↓rd_M7, ↓rd_M8, ↓rd_M9, ↓rd_M10, ↓rd_M11, ↓rd_M12, ↓rd_M13, ↓rd_M14, ↓rd_M15, ↓rd_M16, ↓rd_M17, ↓rd_M18, ↓rd_M19, ↓wr_M1, ↓wr_M2, ↓wr_M3, ↓wr_M4, ↓wr_M5, ↓wr_M6, ↓wr_M7, ↓wr_M8, ↓wr_M9, ↓wr_M10, ↓wr_M11, ↓wr_M12, ↓wr_M13, ↓wr_M14, ↓wr_M15, ↓wr_M16, ↓wr_M17, ↓wr_M18, ↓wr_M19, pL_H, pV_M1, pV_M2, pV_M3, pV_M4, pV_M5, pV_M6, pV_M13, pV_M22, pV_M23, pV_M24, pV_M25, pV_M27, pV_M28, pV_M29, pV_M30, pV_M31, pV_M32, pV_M33, pV_M34, pV_M35, pV_M40, pV_M41, pV_M42, pV_M43, rd_M1, rd_M2, rd_M3, rd_M4, rd_M5, rd_M6, rd_M7, rd_M8, rd_M9, rd_M10, rd_M11, rd_M12, rd_M13, rd_M14, rd_M15, rd_M16, rd_M17, rd_M18, rd_M19, wr_M1, wr_M2, wr_M3, wr_M4, wr_M5, wr_M6, wr_M7, wr_M8, wr_M9, wr_M10, wr_M11, wr_M12, wr_M13, wr_M14, wr_M15, wr_M16, wr_M17, wr_M18, wr_M19, J_l, J_neg, J_add, J_sub, J_mul, J_lt, J_le, J_eq, J_div2, J_rem2, J_shl1, J_orp, J_or, J_and, J_shr, J_ushr, J_max, J_min, J_abs, J_b0, ↓b0_ite, ↓b0_ite2, b0_ite, bI_r, bV_r, b01_ite, ite_true, ite_false, rZ_b, K_l, J_long, M_in, x2]
    by_cases hln : onLn (LO G n) (fr c p (LN G n c)) (LN G n c)
    · rw [if_pos hln]
      have : dgT (LO G n) (LN G n) W row wd hg c p = -2 := by
        unfold dgT
        rw [if_neg (fun e => by have := why_ln (lo := LO G n) (lb := row) ho hln; omega)]
      rw [this]
      exact ⟨m, rfl, fun _ _ _ _ => rfl, fun _ _ => rfl, Or.inl ⟨by omega, row, hIk⟩⟩
    · rw [if_neg hln]
      have hbd := Own_bd i7 (by omega)
      obtain ⟨nn, o, x3, x4⟩ := M_others (y := y) (g := g) (w := w) (m := m) hc hp (by rw [f14c]; omega) hbw hbh ho' (by rw [i5]; exact hbd)
      rw [f14c, i5] at x4
      have hno := own_no i7 hc.1 hl
      have hoth : ∀ i, fr c p (LN G n c) ≤ i → i < fr c p (LN G n c) + LN G n c → (oth row c i ↔ 0 ≤ row i) := fun i a b => by
        have := hin i a b
        exact ⟨fun e => e.1, fun e => ⟨e, hno i this.1 this.2⟩⟩
      have x5 := othR_pos x4
      have hnb : -100 ≤ nn ∧ nn ≤ 100 := by omega
      simp (disch := omega) only [↓isO_M, ↓gL_H, ↓pL_H, ↓gI_M1, ↓gI_M2, ↓gI_M3, ↓gI_M4, ↓gI_M5, ↓gI_M6, ↓gI_M13, ↓gI_M22, ↓gI_M23, ↓gI_M24, ↓gI_M25, ↓gI_M27, ↓gI_M28, ↓gI_M29, ↓gI_M30, ↓gI_M31, ↓gI_M32, ↓gI_M33, ↓gI_M34, ↓gI_M35, ↓gI_M40, ↓gI_M41, ↓gI_M42, ↓gI_M43, ↓pV_M1, ↓pV_M2, ↓pV_M3, ↓pV_M4, ↓pV_M5, ↓pV_M6, ↓pV_M13, ↓pV_M22, ↓pV_M23, ↓pV_M24, ↓pV_M25, ↓pV_M27, ↓pV_M28, ↓pV_M29, ↓pV_M30, ↓pV_M31, ↓pV_M32, ↓pV_M33, ↓pV_M34, ↓pV_M35, ↓pV_M40, ↓pV_M41, ↓pV_M42, ↓pV_M43, ↓gR_M0, ↓gR_M7, ↓gR_M8, ↓gR_M9, ↓gR_M10, ↓gR_M11, ↓gR_M12, ↓gR_M14, ↓gR_M15, ↓gR_M16, ↓gR_M17, ↓gR_M18, ↓gR_M19, ↓gR_M20, ↓gR_M21, ↓gR_M36, ↓gR_M37, ↓gR_M38, ↓gR_M39, ↓rd_M1, ↓rd_M2, ↓rd_M3, ↓rd_M4, ↓rd_M5, ↓rd_M6, ↓rd_M7, ↓rd_M8, ↓rd_M9, ↓rd_M10, ↓rd_M11, ↓rd_M12, ↓rd_M13, ↓rd_M14, ↓rd_M15, ↓rd_M16, ↓rd_M17, ↓rd_M18, ↓rd_M19, ↓wr_M1, ↓wr_M2, ↓wr_M3, ↓wr_M4, ↓wr_M5, ↓wr_M6, ↓wr_M7, ↓wr_M8, ↓wr_M9, ↓wr_M10, ↓wr_M11, ↓wr_M12, ↓wr_M13, ↓wr_M14, ↓wr_M15, ↓wr_M16, ↓wr_M17, ↓wr_M18, ↓wr_M19, pL_H, pV_M1, pV_M2, pV_M3, pV_M4, pV_M5, pV_M6, pV_M13, pV_M22, pV_M23, pV_M24, pV_M25, pV_M27, pV_M28, pV_M29, pV_M30, pV_M31, pV_M32, pV_M33, pV_M34, pV_M35, pV_M40, pV_M41, pV_M42, pV_M43, rd_M1, rd_M2, rd_M3, rd_M4, rd_M5, rd_M6, rd_M7, rd_M8, rd_M9, rd_M10, rd_M11, rd_M12, rd_M13, rd_M14, rd_M15, rd_M16, rd_M17, rd_M18, rd_M19, wr_M1, wr_M2, wr_M3, wr_M4, wr_M5, wr_M6, wr_M7, wr_M8, wr_M9, wr_M10, wr_M11, wr_M12, wr_M13, wr_M14, wr_M15, wr_M16, wr_M17, wr_M18, wr_M19, J_l, J_neg, J_add, J_sub, J_mul, J_lt, J_le, J_eq, J_div2, J_rem2, J_shl1, J_orp, J_or, J_and, J_shr, J_ushr, J_max, J_min, J_abs, J_b0, ↓b0_ite, ↓b0_ite2, b0_ite, bI_r, bV_r, b01_ite, ite_true, ite_false, rZ_b, K_l, J_long, M_in, x3]
      by_cases h1 : nn = 1
      · rw [if_pos h1]
        have hsole : (0 ≤ o ∧ o < 1600) ∧ sole row (fr c p (LN G n c)) (LN G n c) o := by
          rcases x4 with ⟨a, _⟩ | ⟨a1, a2, a3, a4, ⟨i, b1, b2, b3⟩, a6⟩ | ⟨a, _⟩
          · omega
          · exact ⟨⟨a2, a3⟩, ⟨i, b1, b2, b3⟩, fun i b1 b2 b3 => a6 i b1 b2 ((hoth i b1 b2).mpr b3)⟩
          · omega
        obtain ⟨hob, hs⟩ := hsole
        have h7 : whyP (LO G n) (LN G n) row wd hg c p = -7 := why_lb ho hln (x5.1.mp (by omega))
        have eT := dgT_some (W := W) h7 hs hob.1
        have eo := soO_of hs hob.1
        have hne : c ≠ o := fun e => by
          obtain ⟨⟨i, b1, b2, b3⟩, _⟩ := hs
          have := hin i b1 b2
          exact hno i this.1 this.2 (by rw [b3, e])
        have hlo2 : 0 ≤ lbl W o := by
          obtain ⟨⟨i, b1, b2, b3⟩, _⟩ := hs
          have h := hin i b1 b2
          have := own_lab i7 h.1 h.2 (by omega)
          rw [b3] at this
          exact this.2.1
        have hpo : lbl W o < 8 ∧ 0 < SN G n o ∧ ¬offP wd hg o (lbl W o) (LN G n o) := by
          rcases i6 o hob.1 hob.2 with e | ⟨_, e1, e2, e3, _⟩
          · omega
          · exact ⟨e1, e2, e3⟩
        have hLo := LN_pos (c := o) hz.lb hz.2.2.1.1 hpo.2.1
        have f14o := (i3 o hob.1 hob.2).2.2
        -- the memories
        have q0 : o22 m o 3 = W := by rw [o22_ne (by decide)]; exact i4
        have q22 : o22 m o 0 22 = o := by unfold o22; rw [rs_same, ru_same]
        have y0 := M_labelOf (y := y) (g := g) (w := w) (m := o22 m o) hob
        rw [q0] at y0
        have y1 := M_loses (y := y) (g := g) (w := w) (m := o22 m o) (c := o) hz.1 hz.2.1 hob (by rw [q0]; exact ⟨hlo2, hpo.1⟩) (by rw [o22_ne (by decide), f14o]; omega) (by rw [q0, o22_ne (by decide), f14o]; exact hpo.2.2)
        rw [q0, o22_ne (by decide), o22_ne (by decide), f14o, i5] at y1
        generalize hm1 : rs (rs (o22 m o) 15 (pnt row (fr o (lbl W o) (LN G n o)) (LN G n o) (-2))) 3 (ru W (184 + o) (-2)) = m1 at y1
        have a1 : ∀ x, x ≠ 0 → x ≠ 3 → x ≠ 15 → m1 x = m x := fun x x1 x2 x3 => by rw [← hm1, rs_ne x2, rs_ne x3, o22_ne x1]
        have a0 : ∀ j, j ≠ 22 → m1 0 j = m 0 j := fun j hj => by rw [← hm1, rs_ne (by decide), rs_ne (by decide), o22_0 hj]
        have a3 : m1 3 = ru W (184 + o) (-2) := by rw [← hm1, rs_same]
        have a15 : m1 15 = pnt row (fr o (lbl W o) (LN G n o)) (LN G n o) (-2) := by rw [← hm1, rs_ne (by decide), rs_same]
        have y2 := M_gets (y := y) (g := g) (w := w) (m := m1) (c := c) (p := p) hz.1 hz.2.1 hc hp (by rw [a1 14 (by decide) (by decide) (by decide), f14c]; omega) (by rw [a1 14 (by decide) (by decide) (by decide), f14c]; exact ho)
        rw [a3, a15, a1 14 (by decide) (by decide) (by decide), f14c] at y2
        generalize hm2 : rs (rs m1 3 (ru (ru W (184 + o) (-2)) (184 + c) p)) 15 (pnt (pnt row (fr o (lbl W o) (LN G n o)) (LN G n o) (-2)) (fr c p (LN G n c)) (LN G n c) c) = m2 at y2
        have b1 : ∀ x, x ≠ 0 → x ≠ 3 → x ≠ 15 → m2 x = m x := fun x x1 x2 x3 => by rw [← hm2, rs_ne x3, rs_ne x2, a1 x x1 x2 x3]
        have b0 : ∀ j, j ≠ 22 → m2 0 j = m 0 j := fun j hj => by rw [← hm2, rs_ne (by decide), rs_ne (by decide), a0 j hj]
        have b3 : m2 3 = ru (ru W (184 + o) (-2)) (184 + c) p := by rw [← hm2, rs_ne (by decide), rs_same]
        have b15 : m2 15 = row2 (LN G n) W row c o p := by rw [← hm2, rs_same]; rfl
        have hcd := why_cond h7
        have hl2 : lbl (ru W (184 + o) (-2)) c < 0 := by rw [lbl_ru hob.1 hc.1, if_neg hne]; exact hl
        have hfree := sole_free hz.1 hz.2.1 i7 hc hcd.1 hs
        have hG2 := GN_put (p := p) hc.1 (GN_take hob.1 i6) hp hpl hcd.1 hcd.2
        have hO2 := Own_put hc (Own_take hob i7 hlo2) hl2 hp.1 hfree
        have hLM2 : LabM G wd hg n (ru (ru W (184 + o) (-2)) (184 + c) p) (row2 (LN G n) W row c o p) m2 := LabM_fr hIk (fun x hx => b1 x (by omega) (by omega) (by omega)) ⟨b0 3 (by decide), b0 4 (by decide)⟩ b3 b15 hG2 hO2
        obtain ⟨v, y3⟩ := M_firstFree (y := y) (g := g) (w := w) (m := m2) (c := o) hob (hLM2.wi hz)
        have ex : ff (whyM m2 o) = ff (whyP (LO G n) (LN G n) (row2 (LN G n) W row c o p) wd hg o) := ff_congr fun q _ _ => hLM2.why hz hob
        rw [ex, ← eT] at y3
        have fb := dgT_bd (lo := LO G n) (lg := LN G n) (W := W) (row := row) (wd := wd) (hg := hg) (c := c) (p := p)
        simp (disch := omega) only [↓isO_M, ↓gL_H, ↓pL_H, ↓gI_M1, ↓gI_M2, ↓gI_M3, ↓gI_M4, ↓gI_M5, ↓gI_M6, ↓gI_M13, ↓gI_M22, ↓gI_M23, ↓gI_M24, ↓gI_M25, ↓gI_M27, ↓gI_M28, ↓gI_M29, ↓gI_M30, ↓gI_M31, ↓gI_M32, ↓gI_M33, ↓gI_M34, ↓gI_M35, ↓gI_M40, ↓gI_M41, ↓gI_M42, ↓gI_M43, ↓pV_M1, ↓pV_M2, ↓pV_M3, ↓pV_M4, ↓pV_M5, ↓pV_M6, ↓pV_M13, ↓pV_M22, ↓pV_M23, ↓pV_M24, ↓pV_M25, ↓pV_M27, ↓pV_M28, ↓pV_M29, ↓pV_M30, ↓pV_M31, ↓pV_M32, ↓pV_M33, ↓pV_M34, ↓pV_M35, ↓pV_M40, ↓pV_M41, ↓pV_M42, ↓pV_M43, ↓gR_M0, ↓gR_M7, ↓gR_M8, ↓gR_M9, ↓gR_M10, ↓gR_M11, ↓gR_M12, ↓gR_M14, ↓gR_M15, ↓gR_M16, ↓gR_M17, ↓gR_M18, ↓gR_M19, ↓gR_M20, ↓gR_M21, ↓gR_M36, ↓gR_M37, ↓gR_M38, ↓gR_M39, ↓rd_M1, ↓rd_M2, ↓rd_M3, ↓rd_M4, ↓rd_M5, ↓rd_M6, ↓rd_M7, ↓rd_M8, ↓rd_M9, ↓rd_M10, ↓rd_M11, ↓rd_M12, ↓rd_M13, ↓rd_M14, ↓rd_M15, ↓rd_M16, ↓rd_M17, ↓rd_M18, ↓rd_M19, ↓wr_M1, ↓wr_M2, ↓wr_M3, ↓wr_M4, ↓wr_M5, ↓wr_M6, ↓wr_M7, ↓wr_M8, ↓wr_M9, ↓wr_M10, ↓wr_M11, ↓wr_M12, ↓wr_M13, ↓wr_M14, ↓wr_M15, ↓wr_M16, ↓wr_M17, ↓wr_M18, ↓wr_M19, pL_H, pV_M1, pV_M2, pV_M3, pV_M4, pV_M5, pV_M6, pV_M13, pV_M22, pV_M23, pV_M24, pV_M25, pV_M27, pV_M28, pV_M29, pV_M30, pV_M31, pV_M32, pV_M33, pV_M34, pV_M35, pV_M40, pV_M41, pV_M42, pV_M43, rd_M1, rd_M2, rd_M3, rd_M4, rd_M5, rd_M6, rd_M7, rd_M8, rd_M9, rd_M10, rd_M11, rd_M12, rd_M13, rd_M14, rd_M15, rd_M16, rd_M17, rd_M18, rd_M19, wr_M1, wr_M2, wr_M3, wr_M4, wr_M5, wr_M6, wr_M7, wr_M8, wr_M9, wr_M10, wr_M11, wr_M12, wr_M13, wr_M14, wr_M15, wr_M16, wr_M17, wr_M18, wr_M19, J_l, J_neg, J_add, J_sub, J_mul, J_lt, J_le, J_eq, J_div2, J_rem2, J_shl1, J_orp, J_or, J_and, J_shr, J_ushr, J_max, J_min, J_abs, J_b0, ↓b0_ite, ↓b0_ite2, b0_ite, bI_r, bV_r, b01_ite, ite_true, ite_false, rZ_b, K_l, J_long, M_in, q22, y0, y1, y2, y3]
        have d3 : o22 m2 v 3 = ru (ru W (184 + o) (-2)) (184 + c) p := by rw [o22_ne (by decide)]; exact b3
        have d15 : o22 m2 v 15 = row2 (LN G n) W row c o p := by rw [o22_ne (by decide)]; exact b15
        have d14 : ∀ x, o22 m2 v 14 x = m 14 x := fun x => by rw [o22_ne (by decide), b1 14 (by decide) (by decide) (by decide)]
        have d1 : ∀ x, x ≠ 0 → x ≠ 3 → x ≠ 15 → o22 m2 v x = m x := fun x x1 x2 x3 => by rw [o22_ne x1, b1 x x1 x2 x3]
        have d0 : ∀ j, j ≠ 22 → o22 m2 v 0 j = m 0 j := fun j hj => by rw [o22_0 hj, b0 j hj]
        by_cases hneg : dgT (LO G n) (LN G n) W row wd hg c p < 0
        · rw [if_pos hneg]
          have lc : lbl (ru (ru W (184 + o) (-2)) (184 + c) p) c = p := by rw [lbl_ru hc.1 hc.1, if_pos rfl]
          have y4 := M_loses (y := y) (g := g) (w := w) (m := o22 m2 v) (c := c) hz.1 hz.2.1 hc (by rw [d3, lc]; exact hp) (by rw [d14, f14c]; omega) (by rw [d3, lc, d14, f14c]; exact ho)
          rw [d3, lc, d15, d14, f14c] at y4
          generalize hm3 : rs (rs (o22 m2 v) 15 (pnt (row2 (LN G n) W row c o p) (fr c p (LN G n c)) (LN G n c) (-2))) 3 (ru (ru (ru W (184 + o) (-2)) (184 + c) p) (184 + c) (-2)) = m3 at y4
          have c1 : ∀ x, x ≠ 0 → x ≠ 3 → x ≠ 15 → m3 x = m x := fun x x1 x2 x3 => by rw [← hm3, rs_ne x2, rs_ne x3, d1 x x1 x2 x3]
          have c0 : ∀ j, j ≠ 22 → m3 0 j = m 0 j := fun j hj => by rw [← hm3, rs_ne (by decide), rs_ne (by decide), d0 j hj]
          have c3 : m3 3 = ru (ru (ru W (184 + o) (-2)) (184 + c) p) (184 + c) (-2) := by rw [← hm3, rs_same]
          have c15 : m3 15 = pnt (row2 (LN G n) W row c o p) (fr c p (LN G n c)) (LN G n c) (-2) := by rw [← hm3, rs_ne (by decide), rs_same]
          have y5 := M_gets (y := y) (g := g) (w := w) (m := m3) (c := o) (p := lbl W o) hz.1 hz.2.1 hob ⟨hlo2, hpo.1⟩ (by rw [c1 14 (by decide) (by decide) (by decide), f14o]; omega) (by rw [c1 14 (by decide) (by decide) (by decide), f14o]; exact hpo.2.2)
          rw [c3, c15, c1 14 (by decide) (by decide) (by decide), f14o] at y5
          simp (disch := omega) only [↓isO_M, ↓gL_H, ↓pL_H, ↓gI_M1, ↓gI_M2, ↓gI_M3, ↓gI_M4, ↓gI_M5, ↓gI_M6, ↓gI_M13, ↓gI_M22, ↓gI_M23, ↓gI_M24, ↓gI_M25, ↓gI_M27, ↓gI_M28, ↓gI_M29, ↓gI_M30, ↓gI_M31, ↓gI_M32, ↓gI_M33, ↓gI_M34, ↓gI_M35, ↓gI_M40, ↓gI_M41, ↓gI_M42, ↓gI_M43, ↓pV_M1, ↓pV_M2, ↓pV_M3, ↓pV_M4, ↓pV_M5, ↓pV_M6, ↓pV_M13, ↓pV_M22, ↓pV_M23, ↓pV_M24, ↓pV_M25, ↓pV_M27, ↓pV_M28, ↓pV_M29, ↓pV_M30, ↓pV_M31, ↓pV_M32, ↓pV_M33, ↓pV_M34, ↓pV_M35, ↓pV_M40, ↓pV_M41, ↓pV_M42, ↓pV_M43, ↓gR_M0, ↓gR_M7, ↓gR_M8, ↓gR_M9, ↓gR_M10, ↓gR_M11, ↓gR_M12, ↓gR_M14, ↓gR_M15, ↓gR_M16, ↓gR_M17, ↓gR_M18, ↓gR_M19, ↓gR_M20, ↓gR_M21, ↓gR_M36, ↓gR_M37, ↓gR_M38, ↓gR_M39, ↓rd_M1, ↓rd_M2, ↓rd_M3, ↓rd_M4, ↓rd_M5, ↓rd_M6, ↓rd_M7, ↓rd_M8, ↓rd_M9, ↓rd_M10, ↓rd_M11, ↓rd_M12, ↓rd_M13, ↓rd_M14, ↓rd_M15, ↓rd_M16, ↓rd_M17, ↓rd_M18, ↓rd_M19, ↓wr_M1, ↓wr_M2, ↓wr_M3, ↓wr_M4, ↓wr_M5, ↓wr_M6, ↓wr_M7, ↓wr_M8, ↓wr_M9, ↓wr_M10, ↓wr_M11, ↓wr_M12, ↓wr_M13, ↓wr_M14, ↓wr_M15, ↓wr_M16, ↓wr_M17, ↓wr_M18, ↓wr_M19, pL_H, pV_M1, pV_M2, pV_M3, pV_M4, pV_M5, pV_M6, pV_M13, pV_M22, pV_M23, pV_M24, pV_M25, pV_M27, pV_M28, pV_M29, pV_M30, pV_M31, pV_M32, pV_M33, pV_M34, pV_M35, pV_M40, pV_M41, pV_M42, pV_M43, rd_M1, rd_M2, rd_M3, rd_M4, rd_M5, rd_M6, rd_M7, rd_M8, rd_M9, rd_M10, rd_M11, rd_M12, rd_M13, rd_M14, rd_M15, rd_M16, rd_M17, rd_M18, rd_M19, wr_M1, wr_M2, wr_M3, wr_M4, wr_M5, wr_M6, wr_M7, wr_M8, wr_M9, wr_M10, wr_M11, wr_M12, wr_M13, wr_M14, wr_M15, wr_M16, wr_M17, wr_M18, wr_M19, J_l, J_neg, J_add, J_sub, J_mul, J_lt, J_le, J_eq, J_div2, J_rem2, J_shl1, J_orp, J_or, J_and, J_shr, J_ushr, J_max, J_min, J_abs, J_b0, ↓b0_ite, ↓b0_ite2, b0_ite, bI_r, bV_r, b01_ite, ite_true, ite_false, rZ_b, K_l, J_long, M_in, y4, y5]
          have eW : ru (ru (ru (ru W (184 + o) (-2)) (184 + c) p) (184 + c) (-2)) (184 + o) (lbl W o) = W := by
            have hlc2 : lbl W c = -2 := by
              rcases i6 c hc.1 hc.2 with e | ⟨e, _⟩ <;> omega
            funext j
            unfold ru
            by_cases j1 : j = 184 + o
            · rw [if_pos j1, j1]; rfl
            · rw [if_neg j1]
              by_cases j2 : j = 184 + c
              · rw [if_pos j2, j2]; exact hlc2.symm
              · rw [if_neg j2, if_neg j2, if_neg j1]
          refine ⟨_, rfl, fun x x1 x2 x3 => ?_, fun j hj => ?_, Or.inl ⟨hneg, pnt (pnt (row2 (LN G n) W row c o p) (fr c p (LN G n c)) (LN G n c) (-2)) (fr o (lbl W o) (LN G n o)) (LN G n o) o, ?_⟩⟩
          · rw [rs_ne x3, rs_ne x2, c1 x x1 x2 x3]
          · rw [rs_ne (by decide), rs_ne (by decide), c0 j hj]
          · refine LabM_fr hIk (fun x hx => by rw [rs_ne (by omega), rs_ne (by omega), c1 x (by omega) (by omega) (by omega)]) ⟨by rw [rs_ne (by decide), rs_ne (by decide), c0 3 (by decide)], by rw [rs_ne (by decide), rs_ne (by decide), c0 4 (by decide)]⟩ (by rw [rs_ne (by decide), rs_same]; exact eW) rs_same i6 ?_
            intro i h1 h2
            have x := i7 i h1 h2
            have er : pnt (pnt (row2 (LN G n) W row c o p) (fr c p (LN G n c)) (LN G n c) (-2)) (fr o (lbl W o) (LN G n o)) (LN G n o) o i = row i := by
              unfold row2 pnt
              by_cases k1 : fr o (lbl W o) (LN G n o) ≤ i ∧ i < fr o (lbl W o) (LN G n o) + LN G n o
              · rw [if_pos k1]
                exact (x.2 o hob.1 hob.2 hlo2 k1).symm
              · rw [if_neg k1]
                by_cases k2 : fr c p (LN G n c) ≤ i ∧ i < fr c p (LN G n c) + LN G n c
                · rw [if_pos k2]
                  rcases x.1 with e | ⟨e1, e2, e3, e4⟩
                  · exact e.symm
                  · have e5 := hs.2 i k2.1 k2.2 e1
                    rw [e5] at e4
                    exact absurd e4 k1
                · rw [if_neg k2, if_neg k2, if_neg k1]
            rw [er]
            exact x
        · rw [if_neg hneg]
          have y6 := M_gets (y := y) (g := g) (w := w) (m := o22 m2 v) (c := o) (p := dgT (LO G n) (LN G n) W row wd hg c p) hz.1 hz.2.1 hob (by omega) (by rw [d14, f14o]; omega) (by rw [d14, f14o]; rw [eT]; exact (why_free (ff_free (f := whyP (LO G n) (LN G n) (row2 (LN G n) W row c o p) wd hg o) (by rw [← eT]; omega)).2).1)
          rw [d3, d15, d14, f14o] at y6
          simp (disch := omega) only [↓isO_M, ↓gL_H, ↓pL_H, ↓gI_M1, ↓gI_M2, ↓gI_M3, ↓gI_M4, ↓gI_M5, ↓gI_M6, ↓gI_M13, ↓gI_M22, ↓gI_M23, ↓gI_M24, ↓gI_M25, ↓gI_M27, ↓gI_M28, ↓gI_M29, ↓gI_M30, ↓gI_M31, ↓gI_M32, ↓gI_M33, ↓gI_M34, ↓gI_M35, ↓gI_M40, ↓gI_M41, ↓gI_M42, ↓gI_M43, ↓pV_M1, ↓pV_M2, ↓pV_M3, ↓pV_M4, ↓pV_M5, ↓pV_M6, ↓pV_M13, ↓pV_M22, ↓pV_M23, ↓pV_M24, ↓pV_M25, ↓pV_M27, ↓pV_M28, ↓pV_M29, ↓pV_M30, ↓pV_M31, ↓pV_M32, ↓pV_M33, ↓pV_M34, ↓pV_M35, ↓pV_M40, ↓pV_M41, ↓pV_M42, ↓pV_M43, ↓gR_M0, ↓gR_M7, ↓gR_M8, ↓gR_M9, ↓gR_M10, ↓gR_M11, ↓gR_M12, ↓gR_M14, ↓gR_M15, ↓gR_M16, ↓gR_M17, ↓gR_M18, ↓gR_M19, ↓gR_M20, ↓gR_M21, ↓gR_M36, ↓gR_M37, ↓gR_M38, ↓gR_M39, ↓rd_M1, ↓rd_M2, ↓rd_M3, ↓rd_M4, ↓rd_M5, ↓rd_M6, ↓rd_M7, ↓rd_M8, ↓rd_M9, ↓rd_M10, ↓rd_M11, ↓rd_M12, ↓rd_M13, ↓rd_M14, ↓rd_M15, ↓rd_M16, ↓rd_M17, ↓rd_M18, ↓rd_M19, ↓wr_M1, ↓wr_M2, ↓wr_M3, ↓wr_M4, ↓wr_M5, ↓wr_M6, ↓wr_M7, ↓wr_M8, ↓wr_M9, ↓wr_M10, ↓wr_M11, ↓wr_M12, ↓wr_M13, ↓wr_M14, ↓wr_M15, ↓wr_M16, ↓wr_M17, ↓wr_M18, ↓wr_M19, pL_H, pV_M1, pV_M2, pV_M3, pV_M4, pV_M5, pV_M6, pV_M13, pV_M22, pV_M23, pV_M24, pV_M25, pV_M27, pV_M28, pV_M29, pV_M30, pV_M31, pV_M32, pV_M33, pV_M34, pV_M35, pV_M40, pV_M41, pV_M42, pV_M43, rd_M1, rd_M2, rd_M3, rd_M4, rd_M5, rd_M6, rd_M7, rd_M8, rd_M9, rd_M10, rd_M11, rd_M12, rd_M13, rd_M14, rd_M15, rd_M16, rd_M17, rd_M18, rd_M19, wr_M1, wr_M2, wr_M3, wr_M4, wr_M5, wr_M6, wr_M7, wr_M8, wr_M9, wr_M10, wr_M11, wr_M12, wr_M13, wr_M14, wr_M15, wr_M16, wr_M17, wr_M18, wr_M19, J_l, J_neg, J_add, J_sub, J_mul, J_lt, J_le, J_eq, J_div2, J_rem2, J_shl1, J_orp, J_or, J_and, J_shr, J_ushr, J_max, J_min, J_abs, J_b0, ↓b0_ite, ↓b0_ite2, b0_ite, bI_r, bV_r, b01_ite, ite_true, ite_false, rZ_b, K_l, J_long, M_in, y6]
          refine ⟨_, rfl, fun x x1 x2 x3 => ?_, fun j hj => ?_, Or.inr ⟨by omega, ?_⟩⟩
          · rw [rs_ne x3, rs_ne x2, d1 x x1 x2 x3]
          · rw [rs_ne (by decide), rs_ne (by decide), d0 j hj]
          · rw [rs_ne (by decide), rs_same, eo]
            rfl
      · rw [if_neg h1]
        have hT : dgT (LO G n) (LN G n) W row wd hg c p = -2 := by
          have hnone : ∀ o, 0 ≤ o → ¬(whyP (LO G n) (LN G n) row wd hg c p = -7 ∧ sole row (fr c p (LN G n c)) (LN G n c) o) := by
            rintro o' o1 ⟨e7, hs⟩
            obtain ⟨⟨i, k1, k2, k3⟩, hs2⟩ := hs
            rcases x4 with ⟨a1, a2, a3⟩ | ⟨a1, _⟩ | ⟨a1, a2, a3, a4, i', j', a5, a6, a7, a8, a9⟩
            · exact a3 i k1 k2 ((hoth i k1 k2).mpr (by omega))
            · omega
            · have e1 := hs2 i' a5.1 a5.2 a7.1
              have e2 := hs2 j' a6.1 a6.2 a8.1
              omega
          unfold dgT
          by_cases e7 : whyP (LO G n) (LN G n) row wd hg c p = -7
          · rw [soO_none (fun o' o1 o2 => hnone o' o1 ⟨e7, o2⟩), if_neg (by omega)]
          · rw [if_neg (fun e => e7 e.1)]
        rw [hT]
        exact ⟨_, rfl, fun x x1 _ _ => o22_ne x1, fun j hj => o22_0 hj, Or.inl ⟨by omega, row, hIk.o⟩⟩
end DH
