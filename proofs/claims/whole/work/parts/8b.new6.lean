/-! the model's object, whole -/
section NEW6
variable {z y q p k n a c d x A B N i t : Nat} {X Y Y' W : XH} {e e' : XE} {F : Nat → Value} {v : Value} {K : XH → XR} {sh sh' : Sh} {P C : XH → Prop} {ix : Int32} {R : XR} {f : Nat → Option Nat} {g : XH} {w : Int64} {s m : CT} {wd hg mt : Int}
def Mn (y : Nat) (X : XH) (k : Nat) (F : Nat → Value) (Y : XH) : Prop := Y.1 = X.1 ∧ (∀ b, (b < y ∨ y + k ≤ b) → Y.2 b = X.2 b) ∧ Y.2 y = some (xobj 9 F) ∧ ∀ o sh, 1 ≤ o → o < k → TM o = some sh → CZ y Y o sh
theorem mn_pV (hM : Mn y X k F Y) (hk : 1 ≤ k) (hK : ∀ Y', Mn y X k (updV F x v) Y' → Got (K Y') P) : Got (pV Y y 9 x v K) P := by
  obtain ⟨h1, h2, h3, h4⟩ := hM
  rw [pV_some h3]
  exact hK _ ⟨h1, fun b hb => by rw [xhs_ne (by omega), h2 b hb], xhs_eq rfl, fun o sh o1 o2 hT => CZ_xz (h4 o sh o1 o2 hT) o1⟩
theorem mn_arr (hM : Mn y X k F Y) (hk : 1 ≤ k) (hT : TM k = some (.inl (t, n))) (hA : A = y + k) (hK : ∀ Y', Mn y X (k + 1) (updV F x (.ref A)) Y' → Got (K Y') P) : Got (pV (xhs Y A (xnum t n (fun _ => 0))) y 9 x (.ref A) K) P := by
  obtain ⟨h1, h2, h3, h4⟩ := hM
  refine mn_pV (k := k + 1) (F := F) (X := X) ⟨h1, fun b hb => by rw [xhs_ne (by omega), h2 b (by omega)], by rw [xhs_ne (by omega)]; exact h3, fun o sh o1 o2 hT' => ?_⟩ (by omega) hK
  by_cases e : o = k
  · subst e
    rw [hT] at hT'
    cases hT'
    unfold CZ
    rw [hA, xhs_eq rfl]
    rfl
  · have := h4 o sh o1 (by omega) hT'
    unfold CZ at *
    rw [xhs_ne (by omega)]
    exact this
def mA : CT := rs (fun _ _ => 0) 0 (ru (fun _ => 0) 2 (-2))
theorem mA_0 {i : Nat} (h : i ≠ 2) : mA 0 (i : Int) = 0 := by
  unfold mA
  rw [rs_same, ru_ne (by omega)]
abbrev shM : Sh := .inr (.inr (9, slot [4, 0, 0, 0, 0, 0, 0, 5, 6, 7, 8, 9, 10, 0, 11, 12, 13, 14, 15, 16, 17, 18, 0, 0, 0, 0, 1, 0, 0, 0, 0, 0, 0, 0, 0, 0, 19, 20, 21, 22] 0))
set_option maxRecDepth 10000 in
theorem m_obj : xobj 9 (updV (updV (updV (updV (updV (updV (updV (updV (updV (updV (updV (updV (updV (updV (updV (updV (updV (updV (updV (updV (xdf 9) 0 (.ref (y + 1))) 2 (.int (-2 : Int32))) 7 (.ref (y + 1 + 1))) 8 (.ref (y + 1 + 2))) 9 (.ref (y + 1 + 3))) 10 (.ref (y + 1 + 4))) 11 (.ref (y + 1 + 5))) 12 (.ref (y + 1 + 6))) 14 (.ref (y + 1 + 7))) 15 (.ref (y + 1 + 8))) 16 (.ref (y + 1 + 9))) 17 (.ref (y + 1 + 10))) 18 (.ref (y + 1 + 11))) 19 (.ref (y + 1 + 12))) 20 (.ref (y + 1 + 13))) 21 (.ref (y + 1 + 14))) 36 (.ref (y + 1 + 15))) 37 (.ref (y + 1 + 16))) 38 (.ref (y + 1 + 17))) 39 (.ref (y + 1 + 18))) = ent y 0 (fun i => mA 0 (i : Int)) shM := by
  refine congrArg (fun F => xobj 9 F) (funext fun x => ?_)
  by_cases h : x < 44
  · rcases (show x = 0 ∨ x = 1 ∨ x = 2 ∨ x = 3 ∨ x = 4 ∨ x = 5 ∨ x = 6 ∨ x = 7 ∨ x = 8 ∨ x = 9 ∨ x = 10 ∨ x = 11 ∨ x = 12 ∨ x = 13 ∨ x = 14 ∨ x = 15 ∨ x = 16 ∨ x = 17 ∨ x = 18 ∨ x = 19 ∨ x = 20 ∨ x = 21 ∨ x = 22 ∨ x = 23 ∨ x = 24 ∨ x = 25 ∨ x = 26 ∨ x = 27 ∨ x = 28 ∨ x = 29 ∨ x = 30 ∨ x = 31 ∨ x = 32 ∨ x = 33 ∨ x = 34 ∨ x = 35 ∨ x = 36 ∨ x = 37 ∨ x = 38 ∨ x = 39 ∨ x = 40 ∨ x = 41 ∨ x = 42 ∨ x = 43 by omega) with rfl | rfl | rfl | rfl | rfl | rfl | rfl | rfl | rfl | rfl | rfl | rfl | rfl | rfl | rfl | rfl | rfl | rfl | rfl | rfl | rfl | rfl | rfl | rfl | rfl | rfl | rfl | rfl | rfl | rfl | rfl | rfl | rfl | rfl | rfl | rfl | rfl | rfl | rfl | rfl | rfl | rfl | rfl | rfl
    · rfl
    · exact (xdf_9 1).trans (congrArg Value.int (congrArg J (mA_0 (i := 1) (by decide))).symm)
    · exact congrArg Value.int (by decide +kernel)
    · exact (xdf_9 3).trans (congrArg Value.int (congrArg J (mA_0 (i := 3) (by decide))).symm)
    · exact (xdf_9 4).trans (congrArg Value.int (congrArg J (mA_0 (i := 4) (by decide))).symm)
    · exact (xdf_9 5).trans (congrArg Value.int (congrArg J (mA_0 (i := 5) (by decide))).symm)
    · exact (xdf_9 6).trans (congrArg Value.int (congrArg J (mA_0 (i := 6) (by decide))).symm)
    · rfl
    · rfl
    · rfl
    · rfl
    · rfl
    · rfl
    · exact (xdf_9 13).trans (congrArg Value.int (congrArg J (mA_0 (i := 13) (by decide))).symm)
    · rfl
    · rfl
    · rfl
    · rfl
    · rfl
    · rfl
    · rfl
    · rfl
    · exact (xdf_9 22).trans (congrArg Value.int (congrArg J (mA_0 (i := 22) (by decide))).symm)
    · exact (xdf_9 23).trans (congrArg Value.int (congrArg J (mA_0 (i := 23) (by decide))).symm)
    · exact (xdf_9 24).trans (congrArg Value.int (congrArg J (mA_0 (i := 24) (by decide))).symm)
    · exact (xdf_9 25).trans (congrArg Value.int (congrArg J (mA_0 (i := 25) (by decide))).symm)
    · exact xdf_9 26
    · exact (xdf_9 27).trans (congrArg Value.int (congrArg J (mA_0 (i := 27) (by decide))).symm)
    · exact (xdf_9 28).trans (congrArg Value.int (congrArg J (mA_0 (i := 28) (by decide))).symm)
    · exact (xdf_9 29).trans (congrArg Value.int (congrArg J (mA_0 (i := 29) (by decide))).symm)
    · exact (xdf_9 30).trans (congrArg Value.int (congrArg J (mA_0 (i := 30) (by decide))).symm)
    · exact (xdf_9 31).trans (congrArg Value.int (congrArg J (mA_0 (i := 31) (by decide))).symm)
    · exact (xdf_9 32).trans (congrArg Value.int (congrArg J (mA_0 (i := 32) (by decide))).symm)
    · exact (xdf_9 33).trans (congrArg Value.int (congrArg J (mA_0 (i := 33) (by decide))).symm)
    · exact (xdf_9 34).trans (congrArg Value.int (congrArg J (mA_0 (i := 34) (by decide))).symm)
    · exact (xdf_9 35).trans (congrArg Value.int (congrArg J (mA_0 (i := 35) (by decide))).symm)
    · rfl
    · rfl
    · rfl
    · rfl
    · exact (xdf_9 40).trans (congrArg Value.int (congrArg J (mA_0 (i := 40) (by decide))).symm)
    · exact (xdf_9 41).trans (congrArg Value.int (congrArg J (mA_0 (i := 41) (by decide))).symm)
    · exact (xdf_9 42).trans (congrArg Value.int (congrArg J (mA_0 (i := 42) (by decide))).symm)
    · exact (xdf_9 43).trans (congrArg Value.int (congrArg J (mA_0 (i := 43) (by decide))).symm)
  · obtain ⟨n, rfl⟩ : ∃ n, x = n + 44 := ⟨x - 44, by omega⟩
    rw [updV_ne (by omega), updV_ne (by omega), updV_ne (by omega), updV_ne (by omega), updV_ne (by omega), updV_ne (by omega), updV_ne (by omega), updV_ne (by omega), updV_ne (by omega), updV_ne (by omega), updV_ne (by omega), updV_ne (by omega), updV_ne (by omega), updV_ne (by omega), updV_ne (by omega), updV_ne (by omega), updV_ne (by omega), updV_ne (by omega), updV_ne (by omega), updV_ne (by omega), xdf_9]
    exact congrArg Value.int (congrArg J (mA_0 (i := n + 44) (by omega))).symm
theorem TM_some : ∀ o, o < 20 → (TM o).isSome = true := by decide +kernel
theorem TM_none {o : Nat} (h : 20 ≤ o) : TM o = none := by
  obtain ⟨n, rfl⟩ : ∃ n, o = n + 20 := ⟨o - 20, by omega⟩
  rfl
def NewM (m : CT) : Prop := (m 0 1 = 0 ∧ m 0 2 = -2 ∧ m 0 3 = 20 ∧ m 0 4 = 12 ∧ m 0 5 = 2 ∧ m 0 6 = 0 ∧ m 0 13 = 0) ∧ (m 7 0 = 0 ∧ m 7 1 = 0) ∧ ∀ j, 0 ≤ j → j < 1784 → m 3 j = if j < 184 then 0 else -2
theorem M_begun : Got (pV (hi y TM X 0 mA) y 9 3 (.int (20 : Int32)) (fun h21 => pV h21 y 9 4 (.int (12 : Int32)) (fun h22 => pV h22 y 9 5 (.int (2 : Int32)) (fun h23 => isO h23 y 9 (bV (qM_empties y h23) (fun h24 => rV h24)))))) (fun Y => ∃ m0, Y = hi y TM X 0 m0 ∧ NewM m0) := by
  obtain ⟨m', e, f1, f2⟩ := M_empties (y := y) (g := X) (w := K 0) (m := rs mA 0 (ru (ru (ru (mA 0) 3 20) 4 12) 5 2))
  simp (disch := omega) only [↓isO_M, ↓gL_H, ↓pL_H, ↓gI_M1, ↓gI_M2, ↓gI_M3, ↓gI_M4, ↓gI_M5, ↓gI_M6, ↓gI_M13, ↓gI_M22, ↓gI_M23, ↓gI_M24, ↓gI_M25, ↓gI_M27, ↓gI_M28, ↓gI_M29, ↓gI_M30, ↓gI_M31, ↓gI_M32, ↓gI_M33, ↓gI_M34, ↓gI_M35, ↓gI_M40, ↓gI_M41, ↓gI_M42, ↓gI_M43, ↓pV_M1, ↓pV_M2, ↓pV_M3, ↓pV_M4, ↓pV_M5, ↓pV_M6, ↓pV_M13, ↓pV_M22, ↓pV_M23, ↓pV_M24, ↓pV_M25, ↓pV_M27, ↓pV_M28, ↓pV_M29, ↓pV_M30, ↓pV_M31, ↓pV_M32, ↓pV_M33, ↓pV_M34, ↓pV_M35, ↓pV_M40, ↓pV_M41, ↓pV_M42, ↓pV_M43, ↓gR_M0, ↓gR_M7, ↓gR_M8, ↓gR_M9, ↓gR_M10, ↓gR_M11, ↓gR_M12, ↓gR_M14, ↓gR_M15, ↓gR_M16, ↓gR_M17, ↓gR_M18, ↓gR_M19, ↓gR_M20, ↓gR_M21, ↓gR_M36, ↓gR_M37, ↓gR_M38, ↓gR_M39, ↓rd_M1, ↓rd_M2, ↓rd_M3, ↓rd_M4, ↓rd_M5, ↓rd_M6, ↓rd_M7, ↓rd_M8, ↓rd_M9, ↓rd_M10, ↓rd_M11, ↓rd_M12, ↓rd_M13, ↓rd_M14, ↓rd_M15, ↓rd_M16, ↓rd_M17, ↓rd_M18, ↓rd_M19, ↓wr_M1, ↓wr_M2, ↓wr_M3, ↓wr_M4, ↓wr_M5, ↓wr_M6, ↓wr_M7, ↓wr_M8, ↓wr_M9, ↓wr_M10, ↓wr_M11, ↓wr_M12, ↓wr_M13, ↓wr_M14, ↓wr_M15, ↓wr_M16, ↓wr_M17, ↓wr_M18, ↓wr_M19, pL_H, pV_M1, pV_M2, pV_M3, pV_M4, pV_M5, pV_M6, pV_M13, pV_M22, pV_M23, pV_M24, pV_M25, pV_M27, pV_M28, pV_M29, pV_M30, pV_M31, pV_M32, pV_M33, pV_M34, pV_M35, pV_M40, pV_M41, pV_M42, pV_M43, rd_M1, rd_M2, rd_M3, rd_M4, rd_M5, rd_M6, rd_M7, rd_M8, rd_M9, rd_M10, rd_M11, rd_M12, rd_M13, rd_M14, rd_M15, rd_M16, rd_M17, rd_M18, rd_M19, wr_M1, wr_M2, wr_M3, wr_M4, wr_M5, wr_M6, wr_M7, wr_M8, wr_M9, wr_M10, wr_M11, wr_M12, wr_M13, wr_M14, wr_M15, wr_M16, wr_M17, wr_M18, wr_M19, J_l, J_neg, J_add, J_sub, J_mul, J_lt, J_le, J_eq, J_div2, J_rem2, J_shl1, J_orp, J_or, J_and, J_shr, J_ushr, J_max, J_min, J_abs, J_b0, ↓b0_ite, ↓b0_ite2, b0_ite, bI_r, bV_r, b01_ite, ite_true, ite_false, rZ_b, K_l, J_long, M_in, rs_same, rs_ne, rs_rs, ru_same, ru_ne, ne_eq, e]
  refine got_rV ⟨_, rfl, ?_⟩
  have m00 : mA 0 = ru (fun _ => 0) 2 (-2) := by unfold mA; rw [rs_same]
  have m07 : mA 7 = fun _ => 0 := by unfold mA; rw [rs_ne (by decide)]
  unfold NewM
  refine ⟨⟨?_, ?_, ?_, ?_, ?_, ?_, ?_⟩, ⟨?_, ?_⟩, fun j j0 j1 => ?_⟩
  all_goals simp (disch := omega) only [rs_same, rs_ne, rs_rs, ru_same, ru_ne, ne_eq, m00, m07]
  exact f2 j j0 j1
theorem M_made (hN : N = y + 1) : Got (qM_init y (xhs X y (xobj 9 (xdf 9))) N) (fun Y => ∃ m0, Y = hi y TM X 0 m0 ∧ NewM m0) := by
  subst hN
  unfold qM_init
  have D1 : Mn y X 1 (xdf 9) (xhs X y (xobj 9 (xdf 9))) := ⟨rfl, fun b hb => xhs_ne (by omega), xhs_eq rfl, fun o sh o1 o2 => absurd o2 (by omega)⟩
  refine mn_arr (k := 1) D1 (by omega) rfl (by omega) fun Y2 D2 => ?_
  refine mn_pV D2 (by omega) fun Y3 D3 => ?_
  refine mn_arr (k := 2) D3 (by omega) rfl (by omega) fun Y4 D4 => ?_
  refine mn_arr (k := 3) D4 (by omega) rfl (by omega) fun Y5 D5 => ?_
  refine mn_arr (k := 4) D5 (by omega) rfl (by omega) fun Y6 D6 => ?_
  refine mn_arr (k := 5) D6 (by omega) rfl (by omega) fun Y7 D7 => ?_
  refine mn_arr (k := 6) D7 (by omega) rfl (by omega) fun Y8 D8 => ?_
  refine mn_arr (k := 7) D8 (by omega) rfl (by omega) fun Y9 D9 => ?_
  refine mn_arr (k := 8) D9 (by omega) rfl (by omega) fun Y10 D10 => ?_
  refine mn_arr (k := 9) D10 (by omega) rfl (by omega) fun Y11 D11 => ?_
  refine mn_arr (k := 10) D11 (by omega) rfl (by omega) fun Y12 D12 => ?_
  refine mn_arr (k := 11) D12 (by omega) rfl (by omega) fun Y13 D13 => ?_
  refine mn_arr (k := 12) D13 (by omega) rfl (by omega) fun Y14 D14 => ?_
  refine mn_arr (k := 13) D14 (by omega) rfl (by omega) fun Y15 D15 => ?_
  refine mn_arr (k := 14) D15 (by omega) rfl (by omega) fun Y16 D16 => ?_
  refine mn_arr (k := 15) D16 (by omega) rfl (by omega) fun Y17 D17 => ?_
  refine mn_arr (k := 16) D17 (by omega) rfl (by omega) fun Y18 D18 => ?_
  refine mn_arr (k := 17) D18 (by omega) rfl (by omega) fun Y19 D19 => ?_
  refine mn_arr (k := 18) D19 (by omega) rfl (by omega) fun Y20 D20 => ?_
  refine mn_arr (k := 19) D20 (by omega) rfl (by omega) fun Y21 D21 => ?_
  obtain ⟨g1, g2, g3, g4⟩ := D21
  have eY : Y21 = hi y TM X 0 mA := by
    refine lay_of (n := 20) g1 (fun o sh ho hT => ?_) g2 TM_some (fun o ho => TM_none ho)
    by_cases h0 : o = 0
    · subst h0
      have e : TM 0 = some shM := rfl
      rw [e] at hT
      cases hT
      rw [Nat.add_zero, g3]
      exact congrArg some m_obj
    · have es : (fun i : Nat => mA o (i : Int)) = fun _ => 0 := by
        unfold mA
        rw [rs_ne h0]
      rw [es]
      exact g4 o sh (by omega) ho hT
  rw [eY]
  exact M_begun
/-- both begin alike -/
theorem Inv_new (hs : NewS s) (hm : NewM m) : Inv s m := by
  obtain ⟨⟨a1, a2⟩, ⟨b1, b2, b3, b4, b5⟩, ⟨c1, c2, c3, c4⟩, ⟨d1, d2⟩, e1⟩ := hs
  obtain ⟨⟨v1, v2, v3, v4, v5, v6, v13⟩, ⟨k1, k2⟩, hw⟩ := hm
  have hW : ∀ c, 0 ≤ c → c < 1600 → lbl (m 3) c = -2 := fun c c0 c1 => by
    unfold lbl
    rw [hw _ (by omega) (by omega), if_neg (by omega)]
  have rk0 : rk (m 3) 1600 = 0 := cnt_zero (by omega) (fun i i0 i1 => by rw [hW i i0 i1]; omega)
  obtain ⟨gw, go⟩ := GoodW_new (wd := m 0 3) (hg := m 0 4) (n := m 0 6) (W := m 3) (fun l l0 l1 => by omega) hW
  refine ⟨⟨by rw [a1, v1], by omega, fun i i0 i1 => by omega⟩, ⟨by rw [a2, v2], by omega⟩, ⟨⟨by omega, by omega, by omega, by omega⟩, fun l l0 l1 => by omega, ⟨gw, b1.trans v3.symm, b2.trans v4.symm, b3.trans v5.symm, b4.trans v6.symm, fun l l0 l1 => by omega, ?_⟩, fun _ => -2, ⟨⟨d1.trans v3.symm, d2.trans v4.symm⟩, ⟨fun c c0 c1 => ?_, fun l l0 l1 => by omega⟩, fun i i0 i1 => ?_⟩, go⟩, fun j j0 j1 => ⟨?_, ?_, fun q => ?_⟩, ⟨c3.trans v13.symm, by omega, by omega, fun i i0 i1 => by omega⟩⟩
  · refine ⟨by rw [rk0]; exact b5, fun c c0 c1 c2 => ?_⟩
    rw [hW c c0 c1] at c2
    omega
  · obtain ⟨x1, x2, x3, x4, x5, _⟩ := e1 c c0 c1
    rw [x1, x2, x3, x4, x5, v6, LO_z, SP_z, SM_z]
    exact ⟨rfl, rfl, rfl, rfl, rfl⟩
  · rw [(e1 i i0 i1).2.2.2.2.2]
    exact (if_pos (show (-2 : Int) < 0 by omega)).symm
  · rcases (show j = 0 ∨ j = 1 by omega) with rfl | rfl
    · rw [c1, k1]
    · rw [c2, k2]
  · rcases (show j = 0 ∨ j = 1 by omega) with rfl | rfl
    · exact Or.inl k1
    · exact Or.inl k2
  · rcases (show j = 0 ∨ j = 1 by omega) with rfl | rfl
    · omega
    · omega
end NEW6
