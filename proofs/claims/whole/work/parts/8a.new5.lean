/-! the class's object, whole -/
section NEW5
variable {z y q p k n a c d x A B N i : Nat} {X Y Y' W : XH} {e e' : XE} {F : Nat → Value} {v : Value} {K : XH → XR} {sh sh' : Sh} {P C : XH → Prop} {ix : Int32} {R : XR} {f : Nat → Option Nat} {g : XH} {w : Int64} {s : CT} {wd hg mt : Int}
def s27 : CT := rs (fun _ _ => 0) 0 (ru (fun _ => 0) 11 (-2))
theorem d_obj : xobj 8 (updV (updV (updV (updV (updV (updV (updV (updV (updV (updV (updV (updV (xdf 8) 0 (.ref (z + 1))) 1 (.ref (z + 1 + 2))) 2 (.ref (z + 1 + 4))) 3 (.ref (z + 1 + 5))) 4 (.ref (z + 1 + 34))) 5 (.ref (z + 1 + 63))) 6 (.ref (z + 1 + 64))) 7 (.ref (z + 1 + 65))) 8 (.ref (z + 1 + 299))) 9 (.ref (z + 1 + 307))) 10 (.ref (z + 1 + 309))) 11 (.int (-2 : Int32))) = ent z 0 (fun i => s27 0 (i : Int)) oD := by
  refine congrArg (fun F => xobj 8 F) (funext fun x => ?_)
  by_cases h : x < 12
  · rcases (show x = 0 ∨ x = 1 ∨ x = 2 ∨ x = 3 ∨ x = 4 ∨ x = 5 ∨ x = 6 ∨ x = 7 ∨ x = 8 ∨ x = 9 ∨ x = 10 ∨ x = 11 by omega) with rfl | rfl | rfl | rfl | rfl | rfl | rfl | rfl | rfl | rfl | rfl | rfl
    · rfl
    · rfl
    · rfl
    · rfl
    · rfl
    · rfl
    · rfl
    · rfl
    · rfl
    · rfl
    · rfl
    · exact congrArg Value.int (by decide +kernel)
  · obtain ⟨n, rfl⟩ : ∃ n, x = n + 12 := ⟨x - 12, by omega⟩
    rw [updV_ne (by omega), updV_ne (by omega), updV_ne (by omega), updV_ne (by omega), updV_ne (by omega), updV_ne (by omega), updV_ne (by omega), updV_ne (by omega), updV_ne (by omega), updV_ne (by omega), updV_ne (by omega), updV_ne (by omega), xdf_8]
    show Value.int 0 = Value.int (J (s27 0 ((n + 12 : Nat) : Int)))
    unfold s27
    rw [rs_same, ru_ne (by omega)]
    rfl
theorem C_beginN : qP_begin (z + 6) (J wd) (J hg) (J mt) (hi z TD g w s) = rV (hi z TD g w (rs (rs s 6 (ru (ru (ru (ru (s 6) 0 wd) 1 hg) 2 mt) 3 0)) 8 (ru (s 8) 0 0))) := by
  unfold qP_begin
  simp (disch := omega) only [↓gR_D0, ↓gR_D1, ↓gR_D2, ↓gR_D3, ↓gR_D4, ↓gR_D5, ↓gR_D6, ↓gR_D7, ↓gR_D8, ↓gR_D9, ↓gR_D10, ↓gI_D11, ↓pV_D11, ↓isO_D, ↓gI_T0, ↓pV_T0, ↓gR_T1, ↓isO_T, ↓rd_T2, ↓wr_T2, ↓gI_U0, ↓pV_U0, ↓gR_U1, ↓isO_U, ↓rd_U2, ↓wr_U2, ↓gI_Ps0, ↓pV_Ps0, ↓gI_Ps1, ↓pV_Ps1, ↓gI_Ps2, ↓pV_Ps2, ↓gI_Ps3, ↓pV_Ps3, ↓gI_Ps4, ↓pV_Ps4, ↓isO_Ps, ↓gI_N0, ↓pV_N0, ↓gI_N1, ↓pV_N1, ↓gI_N2, ↓pV_N2, ↓gI_N3, ↓pV_N3, ↓gR_N4, ↓gR_N5, ↓isO_N, ↓rd_NL, ↓gI_NB0, ↓pV_NB0, ↓gR_NB1, ↓gR_NB2, ↓isO_NB, ↓rd_NC, ↓wr_NC, ↓ln_NC, ↓rd_NP, ↓wr_NP, ↓ln_NP, ↓gI_V0, ↓pV_V0, ↓gI_V1, ↓pV_V1, ↓gI_V2, ↓pV_V2, ↓gI_V3, ↓pV_V3, ↓gR_V4, ↓gR_V5, ↓isO_V, ↓rd_VL, ↓gI_VB0, ↓pV_VB0, ↓gR_VB1, ↓gR_VB2, ↓isO_VB, ↓rd_VC, ↓wr_VC, ↓ln_VC, ↓rd_VP, ↓wr_VP, ↓ln_VP, ↓rd_SL, ↓rd_KP, ↓wr_KP, ↓gI_H0, ↓pV_H0, ↓gI_H1, ↓pV_H1, ↓gR_H2, ↓isO_H, ↓rd_HP, ↓gI_B0, ↓pV_B0, ↓gI_B1, ↓pV_B1, ↓gR_B2, ↓gR_B3, ↓gR_B4, ↓gR_B5, ↓gR_B6, ↓gR_B7, ↓gR_B8, ↓isO_B, ↓rd_B301, ↓wr_B301, ↓ln_B301, ↓rd_B302, ↓wr_B302, ↓ln_B302, ↓rd_B303, ↓wr_B303, ↓ln_B303, ↓rd_B304, ↓wr_B304, ↓ln_B304, ↓rd_B305, ↓wr_B305, ↓ln_B305, ↓rd_B306, ↓wr_B306, ↓ln_B306, ↓rd_B307, ↓wr_B307, ↓ln_B307, ↓gR_Tv, ↓isO_Tv, ↓rd_Tv9, ↓wr_Tv9, ↓ln_Tv9, pV_D11, pV_T0, rd_T2, wr_T2, pV_U0, rd_U2, wr_U2, pV_Ps0, pV_Ps1, pV_Ps2, pV_Ps3, pV_Ps4, pV_N0, pV_N1, pV_N2, pV_N3, rd_NL, pV_NB0, rd_NC, wr_NC, rd_NP, wr_NP, pV_V0, pV_V1, pV_V2, pV_V3, rd_VL, pV_VB0, rd_VC, wr_VC, rd_VP, wr_VP, rd_SL, rd_KP, wr_KP, pV_H0, pV_H1, rd_HP, pV_B0, pV_B1, rd_B301, wr_B301, rd_B302, wr_B302, rd_B303, wr_B303, rd_B304, wr_B304, rd_B305, wr_B305, rd_B306, wr_B306, rd_B307, wr_B307, rd_Tv9, wr_Tv9, J_l, J_neg, J_add, J_sub, J_mul, J_lt, J_le, J_eq, J_div2, J_rem2, J_shl1, J_orp, J_or, J_and, J_shr, J_ushr, J_max, J_min, J_abs, J_b0, ↓b0_ite, ↓b0_ite2, b0_ite, bI_r, bV_r, b01_ite, ite_true, ite_false, rZ_b, K_l, J_long, M_in, rs_same, rs_ne, rs_rs, ru_same, ru_ne, ne_eq]
theorem TD_some : ∀ o, o < 371 → (TD o).isSome = true := by decide +kernel
theorem TD_none {o : Nat} (h : 371 ≤ o) : TD o = none := by
  cases hT : TD o with
  | none => rfl
  | some sh => exact absurd (TD_end hT) (by omega)
def NewS (s : CT) : Prop := (s 1 0 = 0 ∧ s 0 11 = -2) ∧ (s 6 0 = 20 ∧ s 6 1 = 12 ∧ s 6 2 = 2 ∧ s 6 3 = 0 ∧ s 8 0 = 0) ∧ (s 65 0 = 0 ∧ s 65 1 = 0 ∧ s 66 0 = 0 ∧ s 66 1 = 0) ∧ (s 300 0 = 20 ∧ s 300 1 = 12) ∧ ∀ c, 0 ≤ c → c < 1600 → s 301 c = 0 ∧ s 302 c = 0 ∧ s 303 c = 0 ∧ s 304 c = 0 ∧ s 305 c = 0 ∧ s 306 c = 0
theorem D_begun : Got (gR (hi z TD X 0 s27) z 8 3 (fun a_28 => isO (hi z TD X 0 s27) a_28 5 (bV (qP_begin a_28 (20 : Int32) (12 : Int32) (2 : Int32) (hi z TD X 0 s27)) (fun h29 => gR h29 z 8 8 (fun a_30 => isO h29 a_30 0 (bV (qB_begin a_30 (20 : Int32) (12 : Int32) h29) (fun h31 => rV h31))))))) (fun Y => ∃ s0, Y = hi z TD X 0 s0 ∧ NewS s0) := by
  simp (disch := omega) only [↓gR_D0, ↓gR_D1, ↓gR_D2, ↓gR_D3, ↓gR_D4, ↓gR_D5, ↓gR_D6, ↓gR_D7, ↓gR_D8, ↓gR_D9, ↓gR_D10, ↓gI_D11, ↓pV_D11, ↓isO_D, ↓gI_T0, ↓pV_T0, ↓gR_T1, ↓isO_T, ↓rd_T2, ↓wr_T2, ↓gI_U0, ↓pV_U0, ↓gR_U1, ↓isO_U, ↓rd_U2, ↓wr_U2, ↓gI_Ps0, ↓pV_Ps0, ↓gI_Ps1, ↓pV_Ps1, ↓gI_Ps2, ↓pV_Ps2, ↓gI_Ps3, ↓pV_Ps3, ↓gI_Ps4, ↓pV_Ps4, ↓isO_Ps, ↓gI_N0, ↓pV_N0, ↓gI_N1, ↓pV_N1, ↓gI_N2, ↓pV_N2, ↓gI_N3, ↓pV_N3, ↓gR_N4, ↓gR_N5, ↓isO_N, ↓rd_NL, ↓gI_NB0, ↓pV_NB0, ↓gR_NB1, ↓gR_NB2, ↓isO_NB, ↓rd_NC, ↓wr_NC, ↓ln_NC, ↓rd_NP, ↓wr_NP, ↓ln_NP, ↓gI_V0, ↓pV_V0, ↓gI_V1, ↓pV_V1, ↓gI_V2, ↓pV_V2, ↓gI_V3, ↓pV_V3, ↓gR_V4, ↓gR_V5, ↓isO_V, ↓rd_VL, ↓gI_VB0, ↓pV_VB0, ↓gR_VB1, ↓gR_VB2, ↓isO_VB, ↓rd_VC, ↓wr_VC, ↓ln_VC, ↓rd_VP, ↓wr_VP, ↓ln_VP, ↓rd_SL, ↓rd_KP, ↓wr_KP, ↓gI_H0, ↓pV_H0, ↓gI_H1, ↓pV_H1, ↓gR_H2, ↓isO_H, ↓rd_HP, ↓gI_B0, ↓pV_B0, ↓gI_B1, ↓pV_B1, ↓gR_B2, ↓gR_B3, ↓gR_B4, ↓gR_B5, ↓gR_B6, ↓gR_B7, ↓gR_B8, ↓isO_B, ↓rd_B301, ↓wr_B301, ↓ln_B301, ↓rd_B302, ↓wr_B302, ↓ln_B302, ↓rd_B303, ↓wr_B303, ↓ln_B303, ↓rd_B304, ↓wr_B304, ↓ln_B304, ↓rd_B305, ↓wr_B305, ↓ln_B305, ↓rd_B306, ↓wr_B306, ↓ln_B306, ↓rd_B307, ↓wr_B307, ↓ln_B307, ↓gR_Tv, ↓isO_Tv, ↓rd_Tv9, ↓wr_Tv9, ↓ln_Tv9, pV_D11, pV_T0, rd_T2, wr_T2, pV_U0, rd_U2, wr_U2, pV_Ps0, pV_Ps1, pV_Ps2, pV_Ps3, pV_Ps4, pV_N0, pV_N1, pV_N2, pV_N3, rd_NL, pV_NB0, rd_NC, wr_NC, rd_NP, wr_NP, pV_V0, pV_V1, pV_V2, pV_V3, rd_VL, pV_VB0, rd_VC, wr_VC, rd_VP, wr_VP, rd_SL, rd_KP, wr_KP, pV_H0, pV_H1, rd_HP, pV_B0, pV_B1, rd_B301, wr_B301, rd_B302, wr_B302, rd_B303, wr_B303, rd_B304, wr_B304, rd_B305, wr_B305, rd_B306, wr_B306, rd_B307, wr_B307, rd_Tv9, wr_Tv9, J_l, J_neg, J_add, J_sub, J_mul, J_lt, J_le, J_eq, J_div2, J_rem2, J_shl1, J_orp, J_or, J_and, J_shr, J_ushr, J_max, J_min, J_abs, J_b0, ↓b0_ite, ↓b0_ite2, b0_ite, bI_r, bV_r, b01_ite, ite_true, ite_false, rZ_b, K_l, J_long, M_in, C_beginN, C_begin]
  refine got_rV ⟨_, rfl, ?_⟩
  have q3 : ∀ f : Int → Int, ∀ c, 0 ≤ c → c < 1600 → cns f 1600 0 c = 0 := fun f c c1 c2 => if_pos ⟨c1, c2⟩
  unfold NewS
  refine ⟨⟨?_, ?_⟩, ⟨?_, ?_, ?_, ?_, ?_⟩, ⟨?_, ?_, ?_, ?_⟩, ⟨?_, ?_⟩, fun c c0 c1 => ?_⟩
  all_goals unfold s27
  all_goals simp (disch := omega) only [rs_same, rs_ne, rs_rs, ru_same, ru_ne, ne_eq]
  simp (disch := omega) only [q3 _ c c0 c1, and_self]
theorem D_made : Got (qD_init z (xhs X z (xobj 8 (xdf 8))) (z + 1)) (fun Y => ∃ s0, Y = hi z TD X 0 s0 ∧ NewS s0) := by
  unfold qD_init
  have D1 : Dn z X 1 (xdf 8) (xhs X z (xobj 8 (xdf 8))) := ⟨rfl, fun b hb => xhs_ne (by omega), xhs_eq rfl, fun o sh o1 o2 => absurd o2 (by omega)⟩
  refine dn_step D1 (by omega) (tx_init (q := 1) rfl rfl) (fun Y' hC o sh o1 o2 o3 hT => ?_) fun Y2 D2 _ => ?_
  · rcases (show o = 1 ∨ o = 2 by omega) with rfl | rfl
    · exact cz_of hT rfl hC.1
    · exact cz_of hT rfl hC.2
  replace D2 : Dn z X 3 _ Y2 := D2
  refine dn_step D2 (by omega) (tx_init (q := 3) rfl rfl) (fun Y' hC o sh o1 o2 o3 hT => ?_) fun Y3 D3 _ => ?_
  · rcases (show o = 3 ∨ o = 4 by omega) with rfl | rfl
    · exact cz_of hT rfl hC.1
    · exact cz_of hT rfl hC.2
  replace D3 : Dn z X 5 _ Y3 := D3
  refine dn_step D3 (by omega) (ps_init rfl rfl) (fun Y' hC o sh o1 o2 o3 hT => ?_) fun Y4 D4 _ => ?_
  · obtain rfl : o = 5 := by omega
    exact cz_of hT rfl hC
  replace D4 : Dn z X 6 _ Y4 := D4
  refine dn_step D4 (by omega) (p_init (p := 6) rfl rfl) (fun Y' hC o sh o1 o2 o3 hT => plan_cov (fun j hj => TD_6 hj) hC o1 o2 hT) fun Y5 D5 _ => ?_
  replace D5 : Dn z X 35 _ Y5 := D5
  refine dn_step D5 (by omega) (p_init (p := 35) rfl rfl) (fun Y' hC o sh o1 o2 o3 hT => plan_cov (fun j hj => TD_35 hj) hC o1 o2 hT) fun Y6 D6 _ => ?_
  replace D6 : Dn z X 64 _ Y6 := D6
  have D6' : Dn z X 65 _ (xhs Y6 (z + 64) (xref 5 2 (fun _ => none))) := ⟨D6.1, fun b hb => by rw [xhs_ne (by omega), D6.2.1 b (by omega)], by rw [xhs_ne (by omega)]; exact D6.2.2.1, fun o sh o1 o2 o3 hT => by
    have := D6.2.2.2 o sh o1 (by omega) o3 hT
    unfold CZ at *
    rw [xhs_ne (by omega)]
    exact this⟩
  have E6 : (xhs Y6 (z + 64) (xref 5 2 (fun _ => none))).2 (z + 64) = some (xref 5 2 (fun _ => none)) := xhs_eq rfl
  refine dn_pV (Y := xhs Y6 (z + 64) (xref 5 2 (fun _ => none))) D6' (by omega) fun Y7 D7 E7 => ?_
  rw [E6] at E7
  have D7' : Dn z X 66 _ (xhs Y7 (z + 65) (xnum 2 2 (fun _ => 0))) := ⟨D7.1, fun b hb => by rw [xhs_ne (by omega), D7.2.1 b (by omega)], by rw [xhs_ne (by omega)]; exact D7.2.2.1, fun o sh o1 o2 o3 hT => by
    by_cases e : o = 65
    · subst e
      exact cz_of hT rfl (xhs_eq rfl)
    · have := D7.2.2.2 o sh o1 (by omega) o3 hT
      unfold CZ at *
      rw [xhs_ne (by omega)]
      exact this⟩
  have E7' : (xhs Y7 (z + 65) (xnum 2 2 (fun _ => 0))).2 (z + 64) = some (xref 5 2 (fun _ => none)) := by
    rw [xhs_ne (by omega)]
    exact E7
  refine dn_pV (Y := xhs Y7 (z + 65) (xnum 2 2 (fun _ => 0))) D7' (by omega) fun Y8 D8 E8 => ?_
  rw [E7'] at E8
  refine dn_step D8 (by omega) (h_init rfl rfl) (fun Y' hC o sh o1 o2 o3 hT => ?_) fun Y9 D9 E9 => ?_
  · obtain ⟨c1, c2, c3⟩ := hC
    by_cases e1 : o = 66
    · subst e1; exact cz_of hT rfl c1
    · by_cases e2 : o = 67
      · subst e2; exact cz_of hT rfl c2
      · have e : 68 + 29 * ((o - 68) / 29) ≤ o ∧ o < 68 + 29 * ((o - 68) / 29) + 29 := by omega
        exact plan_cov (fun j hj => TD_H (by omega) hj) (c3 ((o - 68) / 29) (by omega)) e.1 e.2 hT
  replace E9 := (E9 (by omega)).trans E8
  replace D9 : Dn z X 300 _ Y9 := D9
  refine dn_step D9 (by omega) (bd_init rfl rfl) (fun Y' hC o sh o1 o2 o3 hT => ?_) fun Y10 D10 E10 => ?_
  · obtain ⟨c0, c1, c2, c3, c4, c5, c6, c7⟩ := hC
    rcases (show o = 300 ∨ o = 301 ∨ o = 302 ∨ o = 303 ∨ o = 304 ∨ o = 305 ∨ o = 306 ∨ o = 307 by omega) with rfl | rfl | rfl | rfl | rfl | rfl | rfl | rfl
    · exact cz_of hT rfl c0
    · exact cz_of hT rfl c1
    · exact cz_of hT rfl c2
    · exact cz_of hT rfl c3
    · exact cz_of hT rfl c4
    · exact cz_of hT rfl c5
    · exact cz_of hT rfl c6
    · exact cz_of hT rfl c7
  replace E10 := (E10 (by omega)).trans E9
  replace D10 : Dn z X 308 _ Y10 := D10
  refine dn_step D10 (by omega) (tv_init rfl rfl) (fun Y' hC o sh o1 o2 o3 hT => ?_) fun Y11 D11 E11 => ?_
  · rcases (show o = 308 ∨ o = 309 by omega) with rfl | rfl
    · exact cz_of hT rfl hC.1
    · exact cz_of hT rfl hC.2
  replace E11 := (E11 (by omega)).trans E10
  replace D11 : Dn z X 310 _ Y11 := D11
  refine dn_step D11 (by omega) (ln_init (q := 310) rfl rfl) (fun Y' hC o sh o1 o2 o3 hT => ?_) fun Y12 D12 E12 => ?_
  · rcases (show o = 310 ∨ o = 311 ∨ o = 312 by omega) with rfl | rfl | rfl
    · exact cz_of hT rfl hC.1
    · exact cz_of hT rfl hC.2.1
    · exact cz_of hT rfl hC.2.2
  replace E12 := (E12 (by omega)).trans E11
  replace D12 : Dn z X 313 _ Y12 := D12
  refine dn_pV D12 (by omega) fun Y13 D13 E13 => ?_
  rw [E12] at E13
  refine dn_slot (i := 0) D13 rfl (by omega) rfl E13 rfl rfl rfl fun Y14 D14 E14 => ?_
  replace D14 : Dn z X 342 _ Y14 := D14
  refine dn_slot (i := 1) D14 rfl (by omega) rfl E14 rfl rfl rfl fun Y15 D15 E15 => ?_
  replace D15 : Dn z X 371 _ Y15 := D15
  obtain ⟨g1, g2, g3, g4⟩ := D15
  have eY : Y15 = hi z TD X 0 s27 := by
    refine lay_of (n := 371) g1 (fun o sh ho hT => ?_) g2 TD_some (fun o ho => TD_none ho)
    by_cases h0 : o = 0
    · subst h0
      have e : TD 0 = some oD := rfl
      rw [e] at hT
      cases hT
      rw [Nat.add_zero, g3]
      exact congrArg some d_obj
    · have es : (fun i : Nat => s27 o (i : Int)) = fun _ => 0 := by
        unfold s27
        rw [rs_ne h0]
      rw [es]
      by_cases h64 : o = 64
      · subst h64
        have e : TD 64 = some (.inr (.inl (5, 2, fun i => 313 + 29 * i))) := rfl
        rw [e] at hT
        cases hT
        rw [E15]
        refine congrArg some (congrArg (fun f => xref 5 2 f) (funext fun i => ?_))
        unfold va_up
        rcases (show i = 0 ∨ i = 1 ∨ 2 ≤ i by omega) with rfl | rfl | hi2
        · rfl
        · rfl
        · rw [if_neg (by omega), if_neg (by omega), if_neg (by omega)]
      · exact g4 o sh (by omega) ho h64 hT
  rw [eY]
  exact D_begun
end NEW5
