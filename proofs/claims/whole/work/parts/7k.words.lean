/-! words and numbers of texts -/
section WD
variable {z y : Nat} {g g' : XH} {w w' : Int64} {s s' s0 s1 s2 m m' m0 m1 m2 : CT} {G W W' V W1 row row' r0 nm lo lg sn f : Int → Int} {wd hg mt c i j l n p v t k x xx yy N q o to : Int} {a b : Nat} {h : XH}
variable {k r u e d B : Int} {L l0 l1 : List Int} {kk : Nat}
/-- arrays of ints and of bytes at one address have one length -/
def XDis (h : XH) : Prop := ∀ a n f n' f', h.1.2.1 a = some (n, f) → h.1.2.2.1 a = some (n', f') → n = n'
def GT (g : XH) (z : Nat) : Prop := GOk g z ∧ XDis g
def twI (k : Nat) : List Int := ([[98, 111, 97, 114, 100], [32, 116, 117, 114, 110], [108, 105, 110, 101, 32], [32, 115, 105, 122, 101], [32, 115, 116, 111, 112, 115], [32, 97, 116]] : List (List Int)).getD k []
theorem tw_chk : ∀ k : Fin 6, ∀ i : Fin 6, i.1 < txN.getD k.1 0 → ((((txB.getD k.1 []).getD i.1 0 &&& 255).toUInt32 % 65536).toInt32 = J ((twI k.1).getD i.1 0)) ∧ narrow .char (.int (J ((twI k.1).getD i.1 0))) = .int (J ((twI k.1).getD i.1 0)) ∧ 0 ≤ (twI k.1).getD i.1 0 ∧ (twI k.1).getD i.1 0 < 128 := by decide +kernel
theorem tw_len : ∀ k : Fin 6, (twI k.1).length = txN.getD k.1 0 ∧ txN.getD k.1 0 ≤ 6 := by decide +kernel
theorem str_rd (hg : GT g z) (hk : kk < 6) : ∃ a, (∀ (s : CT) (K : Nat → XR), gS (hi z TD g w s) (10 + kk) K = K a) ∧ (∀ (s : CT) (K : XR), isO (hi z TD g w s) a 10 K = K) ∧ (∀ s : CT, qJS_length a (hi z TD g w s) = rI (J (twI kk).length) (hi z TD g w s)) ∧ ∀ (s : CT) (i : Nat), i < (twI kk).length → qJS_charAt a (J i) (hi z TD g w s) = rI (J ((twI kk).getD i 0)) (hi z TD g w s) ∧ 0 ≤ (twI kk).getD i 0 ∧ (twI kk).getD i 0 < 128 := by
  obtain ⟨⟨hg1, hlow, h', b, L, xs, e, hI⟩, hd⟩ := hg
  obtain ⟨-, -, -, -, -, c1, c2, c3⟩ := hI
  obtain ⟨a, v, F, n, f, e1, e2, e3, e4, e5, e6, e7⟩ := c3 kk hk
  rw [e] at c1 c2 e1 e2 e5
  have ha := hlow.2.2 a F e2
  have hv := hlow.2.1 v n f e5
  obtain ⟨t1, t2⟩ := tw_len ⟨kk, hk⟩
  change (twI kk).length = txN.getD kk 0 at t1
  change txN.getD kk 0 ≤ 6 at t2
  have la : ∀ s : CT, (hi z TD g w s).2 a = none := fun s => by unfold hi; rw [hp_low ha]; exact hg1 a ha
  have lv : ∀ s : CT, (hi z TD g w s).2 v = none := fun s => by unfold hi; rw [hp_low hv]; exact hg1 v hv
  have hO : ∀ s : CT, vO (hi z TD g w s) a 10 = some F := fun s => by
    unfold vO
    rw [la]
    exact e2
  have g0 : ∀ (s : CT) (K : Nat → XR), gR (hi z TD g w s) a 10 0 K = K v := fun s K => by
    unfold gR vR
    rw [hO]
    show ob (match F 0 with
      | .ref v => some v
      | _ => none) K = _
    rw [e3]
    rfl
  have g1 : ∀ (s : CT) (K : Int32 → XR), gI (hi z TD g w s) a 10 1 K = K 0 := fun s K => by
    unfold gI vI
    rw [hO]
    show ob (match F 1 with
      | .int v => some v
      | _ => none) K = _
    rw [e4]
    rfl
  have gt : ∀ (s : CT) (K : Int32 → XR), gT (hi z TD g w s) 3 K = K 1 := fun s K => by
    unfold gT
    show (match g.1.1 3 with
      | .int v => K v
      | _ => none) = _
    rw [c1]
  have ho : ∀ (s : CT) (K : XR), isO (hi z TD g w s) a 10 K = K := fun s K => by
    unfold isO
    rw [hO]
    rfl
  have ln : ∀ (s : CT) (K : Int32 → XR), lnA (hi z TD g w s) v K = K (J n) := fun s K => by
    unfold lnA vlA
    rw [lv]
    show ob (match g.1.2.1 v with
      | some (n, _) => some (Int32.ofNat n)
      | none => (match g.1.2.2.1 v with
        | some (n, _) => some (Int32.ofNat n)
        | none => none)) K = _
    cases hq : g.1.2.1 v with
    | none => rw [e5]; rfl
    | some q =>
      obtain ⟨n', f'⟩ := q
      have := hd v n' f' n f hq e5
      show K (Int32.ofNat n') = K (J n)
      rw [this]
      rfl
  have rd : ∀ (s : CT) (i : Nat) (K : Int32 → XR), i < n → rdB (hi z TD g w s) v (J i) K = K (f i) := fun s i K hi0 => by
    have h3 : (J i).toNatClampNeg = i := by rw [J_nat (by omega) (by omega)]; omega
    have h4 : (0 : Int32) ≤ J i := (J_le (a := 0) ⟨by omega, by omega, by omega, by omega⟩).mpr (by omega)
    unfold rdB vdB
    rw [lv]
    show ob (match g.1.2.2.1 v with
      | some (n, f) => if 0 ≤ J i ∧ (J i).toNatClampNeg < n then some (f (J i).toNatClampNeg) else none
      | none => none) K = _
    rw [e5]
    show ob (if 0 ≤ J i ∧ (J i).toNatClampNeg < n then some (f (J i).toNatClampNeg) else none) K = _
    rw [h3, if_pos ⟨h4, hi0⟩]
    rfl
  have r7 : ∀ h : XH, rN7 (0 : Int32) h = rI 0 h := fun h => by
    unfold rN7
    rw [if_pos (by decide)]
  refine ⟨a, fun s K => ?_, ho, fun s => ?_, fun s i hi0 => ?_⟩
  · unfold gS
    show (match g.1.1 (10 + kk) with
      | .ref v => K v
      | _ => none) = _
    rw [e1]
  · unfold qJS_length qJS_coder
    rw [g0, ln, ho, gt, if_neg (by decide), g1, r7, bI_r, show (0 : Int32) = J 0 from rfl, jshr_0, t1, e6]
  · have hn : i < n := by omega
    have ck := tw_chk ⟨kk, hk⟩ ⟨i, by omega⟩ (by show i < txN.getD kk 0; omega)
    obtain ⟨k1, k2, k3⟩ := ck
    refine ⟨?_, k3⟩
    have lt1 : ¬(J i < (0 : Int32)) := by
      rw [show (0 : Int32) = J 0 from rfl, J_lt (by omega)]
      omega
    have lt2 : J (i : Int) < J (n : Int) := by
      rw [J_lt (by omega)]
      omega
    unfold qJS_charAt qJS_isLatin1 qJL_charAt qJS_checkIndex qJP_checkIndex qJP_checkIndex_e
    rw [ho, gt, if_neg (by decide), g1, if_pos rfl, bI_r, if_neg (by decide), g0, ln]
    show bI (bV (bI (if (g.1.1 4).category = 1 then _ else none) _) _) _ = _
    rw [if_pos c2, if_neg lt1, if_pos lt2, bI_r, bV_r, rd s i _ hn, e7 i hn]
    change (((txB.getD kk []).getD i 0 &&& 255).toUInt32 % 65536).toInt32 = J ((twI kk).getD i 0) at k1
    change narrow .char (.int (J ((twI kk).getD i 0))) = .int (J ((twI kk).getD i 0)) at k2
    rw [k1]
    have r8 : rN8 (J ((twI kk).getD i 0)) (hi z TD g w s) = rI (J ((twI kk).getD i 0)) (hi z TD g w s) := by
      unfold rN8
      rw [if_pos k2]
    rw [r8, bI_r, r8]
/-! the class's text -/
def TxC (l : List Int) (s0 s : CT) : Prop := (∀ o, o ≠ 3 → o ≠ 4 → s o = s0 o) ∧ s 3 0 = l.length ∧ ∀ j : Nat, j < l.length → s 4 j = l.getD j 0 ∧ 0 ≤ l.getD j 0 ∧ l.getD j 0 < 128
theorem bz_J : ∀ b : Fin 128, (J (b.1 : Nat)).toInt8.toInt32.toInt8.toInt = b.1 := by decide +kernel
theorem getD_l {l : List Int} {j : Nat} (h : j < l.length) : (l ++ L).getD j 0 = l.getD j 0 := by
  rw [List.getD_eq_getElem?_getD, List.getD_eq_getElem?_getD, List.getElem?_append_left h]
theorem getD_r {l : List Int} {b : Int} : (l ++ [b]).getD l.length 0 = b := by
  rw [List.getD_eq_getElem?_getD, List.getElem?_append_right (Nat.le_refl _), Nat.sub_self]
  rfl
theorem C_addB {l : List Int} {b : Int} (h : TxC l s0 s) (hl : l.length < 1000) (hb : 0 ≤ b ∧ b < 128) : ∃ s', qT_addByte (z + 3) (J b) (hi z TD g w s) = rV (hi z TD g w s') ∧ TxC (l ++ [b]) s0 s' := by
  obtain ⟨h1, h2, h3⟩ := h
  have bb : (J b).toInt8.toInt32.toInt8.toInt = b := by
    have := bz_J ⟨b.toNat, by omega⟩
    rw [show ((b.toNat : Nat) : Int) = b by omega] at this
    exact this
  refine ⟨rs (rs s 4 (ru (s 4) l.length b)) 3 (ru (s 3) 0 (l.length + 1)), ?_, fun o o3 o4 => ?_, ?_, fun j hj => ?_⟩
  · unfold qT_addByte
    simp (disch := omega) only [↓gR_D0, ↓gR_D1, ↓gR_D2, ↓gR_D3, ↓gR_D4, ↓gR_D5, ↓gR_D6, ↓gR_D7, ↓gR_D8, ↓gR_D9, ↓gR_D10, ↓gI_D11, ↓pV_D11, ↓isO_D, ↓gI_T0, ↓pV_T0, ↓gR_T1, ↓isO_T, ↓rd_T2, ↓wr_T2, ↓gI_U0, ↓pV_U0, ↓gR_U1, ↓isO_U, ↓rd_U2, ↓wr_U2, ↓gI_Ps0, ↓pV_Ps0, ↓gI_Ps1, ↓pV_Ps1, ↓gI_Ps2, ↓pV_Ps2, ↓gI_Ps3, ↓pV_Ps3, ↓gI_Ps4, ↓pV_Ps4, ↓isO_Ps, ↓gI_N0, ↓pV_N0, ↓gI_N1, ↓pV_N1, ↓gI_N2, ↓pV_N2, ↓gI_N3, ↓pV_N3, ↓gR_N4, ↓gR_N5, ↓isO_N, ↓rd_NL, ↓gI_NB0, ↓pV_NB0, ↓gR_NB1, ↓gR_NB2, ↓isO_NB, ↓rd_NC, ↓wr_NC, ↓ln_NC, ↓rd_NP, ↓wr_NP, ↓ln_NP, ↓gI_V0, ↓pV_V0, ↓gI_V1, ↓pV_V1, ↓gI_V2, ↓pV_V2, ↓gI_V3, ↓pV_V3, ↓gR_V4, ↓gR_V5, ↓isO_V, ↓rd_VL, ↓gI_VB0, ↓pV_VB0, ↓gR_VB1, ↓gR_VB2, ↓isO_VB, ↓rd_VC, ↓wr_VC, ↓ln_VC, ↓rd_VP, ↓wr_VP, ↓ln_VP, ↓rd_SL, ↓rd_KP, ↓wr_KP, ↓gI_H0, ↓pV_H0, ↓gI_H1, ↓pV_H1, ↓gR_H2, ↓isO_H, ↓rd_HP, ↓gI_B0, ↓pV_B0, ↓gI_B1, ↓pV_B1, ↓gR_B2, ↓gR_B3, ↓gR_B4, ↓gR_B5, ↓gR_B6, ↓gR_B7, ↓gR_B8, ↓isO_B, ↓rd_B301, ↓wr_B301, ↓ln_B301, ↓rd_B302, ↓wr_B302, ↓ln_B302, ↓rd_B303, ↓wr_B303, ↓ln_B303, ↓rd_B304, ↓wr_B304, ↓ln_B304, ↓rd_B305, ↓wr_B305, ↓ln_B305, ↓rd_B306, ↓wr_B306, ↓ln_B306, ↓rd_B307, ↓wr_B307, ↓ln_B307, ↓gR_Tv, ↓isO_Tv, ↓rd_Tv9, ↓wr_Tv9, ↓ln_Tv9, pV_D11, pV_T0, rd_T2, wr_T2, pV_U0, rd_U2, wr_U2, pV_Ps0, pV_Ps1, pV_Ps2, pV_Ps3, pV_Ps4, pV_N0, pV_N1, pV_N2, pV_N3, rd_NL, pV_NB0, rd_NC, wr_NC, rd_NP, wr_NP, pV_V0, pV_V1, pV_V2, pV_V3, rd_VL, pV_VB0, rd_VC, wr_VC, rd_VP, wr_VP, rd_SL, rd_KP, wr_KP, pV_H0, pV_H1, rd_HP, pV_B0, pV_B1, rd_B301, wr_B301, rd_B302, wr_B302, rd_B303, wr_B303, rd_B304, wr_B304, rd_B305, wr_B305, rd_B306, wr_B306, rd_B307, wr_B307, rd_Tv9, wr_Tv9, J_l, J_neg, J_add, J_sub, J_mul, J_lt, J_le, J_eq, J_div2, J_rem2, J_shl1, J_orp, J_or, J_and, J_shr, J_ushr, J_max, J_min, J_abs, J_b0, ↓b0_ite, ↓b0_ite2, b0_ite, bI_r, bV_r, b01_ite, ite_true, ite_false, rZ_b, K_l, J_long, M_in, rs_same, rs_ne, rs_rs, ru_same, ru_ne, ne_eq, if_pos, if_neg, h2, bb]
  · rw [rs_ne o3, rs_ne o4]; exact h1 o o3 o4
  · rw [rs_same, ru_same, List.length_append]
    rfl
  · rw [rs_ne (by decide), rs_same]
    by_cases e : j = l.length
    · rw [e, ru_same, getD_r]
      exact ⟨rfl, hb⟩
    · have hj2 : j < l.length := by
        rw [List.length_append] at hj
        have : j < l.length + 1 := hj
        omega
      rw [ru_ne (by omega), getD_l hj2]
      exact h3 j hj2
theorem take_s : ∀ (B : List Int) (i : Nat), i < B.length → B.take (i + 1) = B.take i ++ [B.getD i 0] := by
  intro B
  induction B with
  | nil => intro i h; exact absurd h (Nat.not_lt_zero _)
  | cons b B ih =>
    intro i h
    cases i with
    | zero => rfl
    | succ i =>
      have := ih i (Nat.lt_of_succ_lt_succ h)
      show b :: B.take (i + 1) = b :: B.take i ++ [B.getD i 0]
      rw [this]
      rfl
theorem str_ex (hg : GT g z) (hk : kk < 6) : ∃ a, (∀ (s : CT) (K : Nat → XR), gS (hi z TD g w s) (10 + kk) K = K a) ∧ ∀ (l : List Int) (s0 s : CT), TxC l s0 s → l.length + 6 ≤ 1000 → ∃ s', qT_addWord (z + 3) a (hi z TD g w s) = rV (hi z TD g w s') ∧ TxC (l ++ twI kk) s0 s' := by
  obtain ⟨a, h1, h2, h3, h4⟩ := str_rd (w := w) hg hk
  obtain ⟨t1, t2⟩ := tw_len ⟨kk, hk⟩
  change (twI kk).length = txN.getD kk 0 at t1
  change txN.getD kk 0 ≤ 6 at t2
  refine ⟨a, h1, fun l s0 s hT hl => ?_⟩
  have key := loopI (S := Nat × CT) (fun N q => qT_addWord_2 N (z + 3) a (J q.1) (hi z TD g w q.2)) (fun X => ∃ s', X = rV (hi z TD g w s') ∧ TxC (l ++ twI kk) s0 s') (fun q => q.1 ≤ (twI kk).length ∧ TxC (l ++ (twI kk).take q.1) s0 q.2) (fun q => (twI kk).length - q.1) (by intro q hq; omega) (fun N q hq ih => by
    obtain ⟨i, s1⟩ := q
    obtain ⟨hi0, hT1⟩ := hq
    change i ≤ (twI kk).length at hi0
    change TxC (l ++ (twI kk).take i) s0 s1 at hT1
    show ∃ s', qT_addWord_2_b (qT_addWord_2 N) (z + 3) a (J i) (hi z TD g w s1) = _ ∧ _
    unfold qT_addWord_2_b
    simp (disch := omega) only [↓gR_D0, ↓gR_D1, ↓gR_D2, ↓gR_D3, ↓gR_D4, ↓gR_D5, ↓gR_D6, ↓gR_D7, ↓gR_D8, ↓gR_D9, ↓gR_D10, ↓gI_D11, ↓pV_D11, ↓isO_D, ↓gI_T0, ↓pV_T0, ↓gR_T1, ↓isO_T, ↓rd_T2, ↓wr_T2, ↓gI_U0, ↓pV_U0, ↓gR_U1, ↓isO_U, ↓rd_U2, ↓wr_U2, ↓gI_Ps0, ↓pV_Ps0, ↓gI_Ps1, ↓pV_Ps1, ↓gI_Ps2, ↓pV_Ps2, ↓gI_Ps3, ↓pV_Ps3, ↓gI_Ps4, ↓pV_Ps4, ↓isO_Ps, ↓gI_N0, ↓pV_N0, ↓gI_N1, ↓pV_N1, ↓gI_N2, ↓pV_N2, ↓gI_N3, ↓pV_N3, ↓gR_N4, ↓gR_N5, ↓isO_N, ↓rd_NL, ↓gI_NB0, ↓pV_NB0, ↓gR_NB1, ↓gR_NB2, ↓isO_NB, ↓rd_NC, ↓wr_NC, ↓ln_NC, ↓rd_NP, ↓wr_NP, ↓ln_NP, ↓gI_V0, ↓pV_V0, ↓gI_V1, ↓pV_V1, ↓gI_V2, ↓pV_V2, ↓gI_V3, ↓pV_V3, ↓gR_V4, ↓gR_V5, ↓isO_V, ↓rd_VL, ↓gI_VB0, ↓pV_VB0, ↓gR_VB1, ↓gR_VB2, ↓isO_VB, ↓rd_VC, ↓wr_VC, ↓ln_VC, ↓rd_VP, ↓wr_VP, ↓ln_VP, ↓rd_SL, ↓rd_KP, ↓wr_KP, ↓gI_H0, ↓pV_H0, ↓gI_H1, ↓pV_H1, ↓gR_H2, ↓isO_H, ↓rd_HP, ↓gI_B0, ↓pV_B0, ↓gI_B1, ↓pV_B1, ↓gR_B2, ↓gR_B3, ↓gR_B4, ↓gR_B5, ↓gR_B6, ↓gR_B7, ↓gR_B8, ↓isO_B, ↓rd_B301, ↓wr_B301, ↓ln_B301, ↓rd_B302, ↓wr_B302, ↓ln_B302, ↓rd_B303, ↓wr_B303, ↓ln_B303, ↓rd_B304, ↓wr_B304, ↓ln_B304, ↓rd_B305, ↓wr_B305, ↓ln_B305, ↓rd_B306, ↓wr_B306, ↓ln_B306, ↓rd_B307, ↓wr_B307, ↓ln_B307, ↓gR_Tv, ↓isO_Tv, ↓rd_Tv9, ↓wr_Tv9, ↓ln_Tv9, pV_D11, pV_T0, rd_T2, wr_T2, pV_U0, rd_U2, wr_U2, pV_Ps0, pV_Ps1, pV_Ps2, pV_Ps3, pV_Ps4, pV_N0, pV_N1, pV_N2, pV_N3, rd_NL, pV_NB0, rd_NC, wr_NC, rd_NP, wr_NP, pV_V0, pV_V1, pV_V2, pV_V3, rd_VL, pV_VB0, rd_VC, wr_VC, rd_VP, wr_VP, rd_SL, rd_KP, wr_KP, pV_H0, pV_H1, rd_HP, pV_B0, pV_B1, rd_B301, wr_B301, rd_B302, wr_B302, rd_B303, wr_B303, rd_B304, wr_B304, rd_B305, wr_B305, rd_B306, wr_B306, rd_B307, wr_B307, rd_Tv9, wr_Tv9, J_l, J_neg, J_add, J_sub, J_mul, J_lt, J_le, J_eq, J_div2, J_rem2, J_shl1, J_orp, J_or, J_and, J_shr, J_ushr, J_max, J_min, J_abs, J_b0, ↓b0_ite, ↓b0_ite2, b0_ite, bI_r, bV_r, b01_ite, ite_true, ite_false, rZ_b, K_l, J_long, M_in, h2, h3]
    by_cases h0 : i < (twI kk).length
    · rw [if_pos (show (i : Int) < ((twI kk).length : Int) by omega)]
      obtain ⟨c1, c2, c3⟩ := h4 s1 i h0
      have tl : (l ++ (twI kk).take i).length < 1000 := by
        rw [List.length_append, List.length_take]
        omega
      obtain ⟨s2, d1, d2⟩ := C_addB (z := z) (g := g) (w := w) hT1 tl ⟨c2, c3⟩
      rw [List.append_assoc, ← take_s _ _ h0] at d2
      simp (disch := omega) only [↓gR_D0, ↓gR_D1, ↓gR_D2, ↓gR_D3, ↓gR_D4, ↓gR_D5, ↓gR_D6, ↓gR_D7, ↓gR_D8, ↓gR_D9, ↓gR_D10, ↓gI_D11, ↓pV_D11, ↓isO_D, ↓gI_T0, ↓pV_T0, ↓gR_T1, ↓isO_T, ↓rd_T2, ↓wr_T2, ↓gI_U0, ↓pV_U0, ↓gR_U1, ↓isO_U, ↓rd_U2, ↓wr_U2, ↓gI_Ps0, ↓pV_Ps0, ↓gI_Ps1, ↓pV_Ps1, ↓gI_Ps2, ↓pV_Ps2, ↓gI_Ps3, ↓pV_Ps3, ↓gI_Ps4, ↓pV_Ps4, ↓isO_Ps, ↓gI_N0, ↓pV_N0, ↓gI_N1, ↓pV_N1, ↓gI_N2, ↓pV_N2, ↓gI_N3, ↓pV_N3, ↓gR_N4, ↓gR_N5, ↓isO_N, ↓rd_NL, ↓gI_NB0, ↓pV_NB0, ↓gR_NB1, ↓gR_NB2, ↓isO_NB, ↓rd_NC, ↓wr_NC, ↓ln_NC, ↓rd_NP, ↓wr_NP, ↓ln_NP, ↓gI_V0, ↓pV_V0, ↓gI_V1, ↓pV_V1, ↓gI_V2, ↓pV_V2, ↓gI_V3, ↓pV_V3, ↓gR_V4, ↓gR_V5, ↓isO_V, ↓rd_VL, ↓gI_VB0, ↓pV_VB0, ↓gR_VB1, ↓gR_VB2, ↓isO_VB, ↓rd_VC, ↓wr_VC, ↓ln_VC, ↓rd_VP, ↓wr_VP, ↓ln_VP, ↓rd_SL, ↓rd_KP, ↓wr_KP, ↓gI_H0, ↓pV_H0, ↓gI_H1, ↓pV_H1, ↓gR_H2, ↓isO_H, ↓rd_HP, ↓gI_B0, ↓pV_B0, ↓gI_B1, ↓pV_B1, ↓gR_B2, ↓gR_B3, ↓gR_B4, ↓gR_B5, ↓gR_B6, ↓gR_B7, ↓gR_B8, ↓isO_B, ↓rd_B301, ↓wr_B301, ↓ln_B301, ↓rd_B302, ↓wr_B302, ↓ln_B302, ↓rd_B303, ↓wr_B303, ↓ln_B303, ↓rd_B304, ↓wr_B304, ↓ln_B304, ↓rd_B305, ↓wr_B305, ↓ln_B305, ↓rd_B306, ↓wr_B306, ↓ln_B306, ↓rd_B307, ↓wr_B307, ↓ln_B307, ↓gR_Tv, ↓isO_Tv, ↓rd_Tv9, ↓wr_Tv9, ↓ln_Tv9, pV_D11, pV_T0, rd_T2, wr_T2, pV_U0, rd_U2, wr_U2, pV_Ps0, pV_Ps1, pV_Ps2, pV_Ps3, pV_Ps4, pV_N0, pV_N1, pV_N2, pV_N3, rd_NL, pV_NB0, rd_NC, wr_NC, rd_NP, wr_NP, pV_V0, pV_V1, pV_V2, pV_V3, rd_VL, pV_VB0, rd_VC, wr_VC, rd_VP, wr_VP, rd_SL, rd_KP, wr_KP, pV_H0, pV_H1, rd_HP, pV_B0, pV_B1, rd_B301, wr_B301, rd_B302, wr_B302, rd_B303, wr_B303, rd_B304, wr_B304, rd_B305, wr_B305, rd_B306, wr_B306, rd_B307, wr_B307, rd_Tv9, wr_Tv9, J_l, J_neg, J_add, J_sub, J_mul, J_lt, J_le, J_eq, J_div2, J_rem2, J_shl1, J_orp, J_or, J_and, J_shr, J_ushr, J_max, J_min, J_abs, J_b0, ↓b0_ite, ↓b0_ite2, b0_ite, bI_r, bV_r, b01_ite, ite_true, ite_false, rZ_b, K_l, J_long, M_in, h2, c1, d1]
      exact ih (i + 1, s2) ⟨by show i + 1 ≤ (twI kk).length; omega, d2⟩ (by show ((twI kk).length : Int) - ((i + 1 : Nat) : Int) < ((twI kk).length : Int) - (i : Int); omega)
    · rw [if_neg (show ¬(i : Int) < ((twI kk).length : Int) by omega)]
      refine ⟨s1, rfl, ?_⟩
      rw [show i = (twI kk).length by omega, List.take_length] at hT1
      exact hT1) (0, s) ⟨Nat.zero_le _, by show TxC (l ++ (twI kk).take 0) s0 s; rw [List.take_zero, List.append_nil]; exact hT⟩ (by show ((twI kk).length : Int) - ((0 : Nat) : Int) < 20000; omega)
  unfold qT_addWord
  exact key
def numB (v : Int) : List Int := if v < 10 then [48 + v] else [48 + v / 10, 48 + v % 10]
theorem numB_len : (numB v).length ≤ 2 := by
  unfold numB
  split
  · exact Nat.le_succ 1
  · exact Nat.le_refl 2
theorem C_addNumber {l : List Int} (h : TxC l s0 s) (hl : l.length + 3 ≤ 1000) (hv : 0 ≤ v ∧ v < 100) : ∃ s', qT_addNumber (z + 3) (J v) (hi z TD g w s) = rV (hi z TD g w s') ∧ TxC (l ++ 32 :: numB v) s0 s' := by
  obtain ⟨s1, e1, h1⟩ := C_addB (z := z) (g := g) (w := w) (b := 32) h (by omega) (by omega)
  have n1 : (l ++ [32]).length = l.length + 1 := by rw [List.length_append]; rfl
  unfold qT_addNumber
  by_cases h0 : v < 10
  · obtain ⟨s2, e2, h2⟩ := C_addB (z := z) (g := g) (w := w) (b := 48 + v % 10) h1 (by omega) (by omega)
    unfold qT_addNumber_23
    simp (disch := omega) only [↓gR_D0, ↓gR_D1, ↓gR_D2, ↓gR_D3, ↓gR_D4, ↓gR_D5, ↓gR_D6, ↓gR_D7, ↓gR_D8, ↓gR_D9, ↓gR_D10, ↓gI_D11, ↓pV_D11, ↓isO_D, ↓gI_T0, ↓pV_T0, ↓gR_T1, ↓isO_T, ↓rd_T2, ↓wr_T2, ↓gI_U0, ↓pV_U0, ↓gR_U1, ↓isO_U, ↓rd_U2, ↓wr_U2, ↓gI_Ps0, ↓pV_Ps0, ↓gI_Ps1, ↓pV_Ps1, ↓gI_Ps2, ↓pV_Ps2, ↓gI_Ps3, ↓pV_Ps3, ↓gI_Ps4, ↓pV_Ps4, ↓isO_Ps, ↓gI_N0, ↓pV_N0, ↓gI_N1, ↓pV_N1, ↓gI_N2, ↓pV_N2, ↓gI_N3, ↓pV_N3, ↓gR_N4, ↓gR_N5, ↓isO_N, ↓rd_NL, ↓gI_NB0, ↓pV_NB0, ↓gR_NB1, ↓gR_NB2, ↓isO_NB, ↓rd_NC, ↓wr_NC, ↓ln_NC, ↓rd_NP, ↓wr_NP, ↓ln_NP, ↓gI_V0, ↓pV_V0, ↓gI_V1, ↓pV_V1, ↓gI_V2, ↓pV_V2, ↓gI_V3, ↓pV_V3, ↓gR_V4, ↓gR_V5, ↓isO_V, ↓rd_VL, ↓gI_VB0, ↓pV_VB0, ↓gR_VB1, ↓gR_VB2, ↓isO_VB, ↓rd_VC, ↓wr_VC, ↓ln_VC, ↓rd_VP, ↓wr_VP, ↓ln_VP, ↓rd_SL, ↓rd_KP, ↓wr_KP, ↓gI_H0, ↓pV_H0, ↓gI_H1, ↓pV_H1, ↓gR_H2, ↓isO_H, ↓rd_HP, ↓gI_B0, ↓pV_B0, ↓gI_B1, ↓pV_B1, ↓gR_B2, ↓gR_B3, ↓gR_B4, ↓gR_B5, ↓gR_B6, ↓gR_B7, ↓gR_B8, ↓isO_B, ↓rd_B301, ↓wr_B301, ↓ln_B301, ↓rd_B302, ↓wr_B302, ↓ln_B302, ↓rd_B303, ↓wr_B303, ↓ln_B303, ↓rd_B304, ↓wr_B304, ↓ln_B304, ↓rd_B305, ↓wr_B305, ↓ln_B305, ↓rd_B306, ↓wr_B306, ↓ln_B306, ↓rd_B307, ↓wr_B307, ↓ln_B307, ↓gR_Tv, ↓isO_Tv, ↓rd_Tv9, ↓wr_Tv9, ↓ln_Tv9, pV_D11, pV_T0, rd_T2, wr_T2, pV_U0, rd_U2, wr_U2, pV_Ps0, pV_Ps1, pV_Ps2, pV_Ps3, pV_Ps4, pV_N0, pV_N1, pV_N2, pV_N3, rd_NL, pV_NB0, rd_NC, wr_NC, rd_NP, wr_NP, pV_V0, pV_V1, pV_V2, pV_V3, rd_VL, pV_VB0, rd_VC, wr_VC, rd_VP, wr_VP, rd_SL, rd_KP, wr_KP, pV_H0, pV_H1, rd_HP, pV_B0, pV_B1, rd_B301, wr_B301, rd_B302, wr_B302, rd_B303, wr_B303, rd_B304, wr_B304, rd_B305, wr_B305, rd_B306, wr_B306, rd_B307, wr_B307, rd_Tv9, wr_Tv9, J_l, J_neg, J_add, J_sub, J_mul, J_lt, J_le, J_eq, J_div2, J_rem2, J_shl1, J_orp, J_or, J_and, J_shr, J_ushr, J_max, J_min, J_abs, J_b0, ↓b0_ite, ↓b0_ite2, b0_ite, bI_r, bV_r, b01_ite, ite_true, ite_false, rZ_b, K_l, J_long, M_in, e1, e2]
    rw [if_pos h0]
    refine ⟨s2, rfl, ?_⟩
    unfold numB
    rw [if_pos h0]
    rw [List.append_assoc, show v % 10 = v by omega] at h2
    exact h2
  · obtain ⟨s2, e2, h2⟩ := C_addB (z := z) (g := g) (w := w) (b := 48 + v / 10) h1 (by omega) (by omega)
    have n2 : (l ++ [32] ++ [48 + v / 10]).length = l.length + 2 := by rw [List.length_append, n1]; rfl
    obtain ⟨s3, e3, h3⟩ := C_addB (z := z) (g := g) (w := w) (b := 48 + v % 10) h2 (by omega) (by omega)
    unfold qT_addNumber_23
    simp (disch := omega) only [↓gR_D0, ↓gR_D1, ↓gR_D2, ↓gR_D3, ↓gR_D4, ↓gR_D5, ↓gR_D6, ↓gR_D7, ↓gR_D8, ↓gR_D9, ↓gR_D10, ↓gI_D11, ↓pV_D11, ↓isO_D, ↓gI_T0, ↓pV_T0, ↓gR_T1, ↓isO_T, ↓rd_T2, ↓wr_T2, ↓gI_U0, ↓pV_U0, ↓gR_U1, ↓isO_U, ↓rd_U2, ↓wr_U2, ↓gI_Ps0, ↓pV_Ps0, ↓gI_Ps1, ↓pV_Ps1, ↓gI_Ps2, ↓pV_Ps2, ↓gI_Ps3, ↓pV_Ps3, ↓gI_Ps4, ↓pV_Ps4, ↓isO_Ps, ↓gI_N0, ↓pV_N0, ↓gI_N1, ↓pV_N1, ↓gI_N2, ↓pV_N2, ↓gI_N3, ↓pV_N3, ↓gR_N4, ↓gR_N5, ↓isO_N, ↓rd_NL, ↓gI_NB0, ↓pV_NB0, ↓gR_NB1, ↓gR_NB2, ↓isO_NB, ↓rd_NC, ↓wr_NC, ↓ln_NC, ↓rd_NP, ↓wr_NP, ↓ln_NP, ↓gI_V0, ↓pV_V0, ↓gI_V1, ↓pV_V1, ↓gI_V2, ↓pV_V2, ↓gI_V3, ↓pV_V3, ↓gR_V4, ↓gR_V5, ↓isO_V, ↓rd_VL, ↓gI_VB0, ↓pV_VB0, ↓gR_VB1, ↓gR_VB2, ↓isO_VB, ↓rd_VC, ↓wr_VC, ↓ln_VC, ↓rd_VP, ↓wr_VP, ↓ln_VP, ↓rd_SL, ↓rd_KP, ↓wr_KP, ↓gI_H0, ↓pV_H0, ↓gI_H1, ↓pV_H1, ↓gR_H2, ↓isO_H, ↓rd_HP, ↓gI_B0, ↓pV_B0, ↓gI_B1, ↓pV_B1, ↓gR_B2, ↓gR_B3, ↓gR_B4, ↓gR_B5, ↓gR_B6, ↓gR_B7, ↓gR_B8, ↓isO_B, ↓rd_B301, ↓wr_B301, ↓ln_B301, ↓rd_B302, ↓wr_B302, ↓ln_B302, ↓rd_B303, ↓wr_B303, ↓ln_B303, ↓rd_B304, ↓wr_B304, ↓ln_B304, ↓rd_B305, ↓wr_B305, ↓ln_B305, ↓rd_B306, ↓wr_B306, ↓ln_B306, ↓rd_B307, ↓wr_B307, ↓ln_B307, ↓gR_Tv, ↓isO_Tv, ↓rd_Tv9, ↓wr_Tv9, ↓ln_Tv9, pV_D11, pV_T0, rd_T2, wr_T2, pV_U0, rd_U2, wr_U2, pV_Ps0, pV_Ps1, pV_Ps2, pV_Ps3, pV_Ps4, pV_N0, pV_N1, pV_N2, pV_N3, rd_NL, pV_NB0, rd_NC, wr_NC, rd_NP, wr_NP, pV_V0, pV_V1, pV_V2, pV_V3, rd_VL, pV_VB0, rd_VC, wr_VC, rd_VP, wr_VP, rd_SL, rd_KP, wr_KP, pV_H0, pV_H1, rd_HP, pV_B0, pV_B1, rd_B301, wr_B301, rd_B302, wr_B302, rd_B303, wr_B303, rd_B304, wr_B304, rd_B305, wr_B305, rd_B306, wr_B306, rd_B307, wr_B307, rd_Tv9, wr_Tv9, J_l, J_neg, J_add, J_sub, J_mul, J_lt, J_le, J_eq, J_div2, J_rem2, J_shl1, J_orp, J_or, J_and, J_shr, J_ushr, J_max, J_min, J_abs, J_b0, ↓b0_ite, ↓b0_ite2, b0_ite, bI_r, bV_r, b01_ite, ite_true, ite_false, rZ_b, K_l, J_long, M_in, e1, e2, e3]
    rw [if_neg h0]
    refine ⟨s3, rfl, ?_⟩
    unfold numB
    rw [if_neg h0]
    rw [List.append_assoc, List.append_assoc] at h3
    exact h3
def nmP (v : Int) : Nat → List Int
  | 0 => []
  | k + 1 => nmP v k ++ if lett v k = 0 then [] else [96 + lett v k]
theorem nmP_len : ∀ k : Nat, (nmP v k).length ≤ k := by
  intro k
  induction k with
  | zero => exact Nat.le_refl 0
  | succ k ih =>
    show (nmP v k ++ if lett v k = 0 then [] else [96 + lett v k]).length ≤ k + 1
    rw [List.length_append]
    split
    · exact Nat.le_succ_of_le ih
    · exact Nat.succ_le_succ ih
theorem C_addName {l : List Int} (h : TxC l s0 s) (hl : l.length + 6 ≤ 1000) (hv : NmOk v) : ∃ s', qT_addName (z + 3) (J v) (hi z TD g w s) = rV (hi z TD g w s') ∧ TxC (l ++ nmP v 6) s0 s' := by
  unfold qT_addName
  refine loopI (S := Nat × CT) (fun N q => qT_addName_2 N (z + 3) (J v) (J q.1) (hi z TD g w q.2)) (fun X => ∃ s', X = rV (hi z TD g w s') ∧ TxC (l ++ nmP v 6) s0 s') (fun q => q.1 ≤ 6 ∧ TxC (l ++ nmP v q.1) s0 q.2) (fun q => 6 - q.1) (by intro q hq; omega) (fun N q hq ih => ?_) (0, s) ⟨Nat.zero_le _, by show TxC (l ++ nmP v 0) s0 s; rw [show nmP v 0 = [] from rfl, List.append_nil]; exact h⟩ (by show (6 : Int) - ((0 : Nat) : Int) < 20000; omega)
  obtain ⟨i, s1⟩ := q
  obtain ⟨hi0, hT1⟩ := hq
  change i ≤ 6 at hi0
  change TxC (l ++ nmP v i) s0 s1 at hT1
  show ∃ s', qT_addName_2_b (qT_addName_2 N) (z + 3) (J v) (J i) (hi z TD g w s1) = _ ∧ _
  unfold qT_addName_2_b
  simp (disch := omega) only [↓gR_D0, ↓gR_D1, ↓gR_D2, ↓gR_D3, ↓gR_D4, ↓gR_D5, ↓gR_D6, ↓gR_D7, ↓gR_D8, ↓gR_D9, ↓gR_D10, ↓gI_D11, ↓pV_D11, ↓isO_D, ↓gI_T0, ↓pV_T0, ↓gR_T1, ↓isO_T, ↓rd_T2, ↓wr_T2, ↓gI_U0, ↓pV_U0, ↓gR_U1, ↓isO_U, ↓rd_U2, ↓wr_U2, ↓gI_Ps0, ↓pV_Ps0, ↓gI_Ps1, ↓pV_Ps1, ↓gI_Ps2, ↓pV_Ps2, ↓gI_Ps3, ↓pV_Ps3, ↓gI_Ps4, ↓pV_Ps4, ↓isO_Ps, ↓gI_N0, ↓pV_N0, ↓gI_N1, ↓pV_N1, ↓gI_N2, ↓pV_N2, ↓gI_N3, ↓pV_N3, ↓gR_N4, ↓gR_N5, ↓isO_N, ↓rd_NL, ↓gI_NB0, ↓pV_NB0, ↓gR_NB1, ↓gR_NB2, ↓isO_NB, ↓rd_NC, ↓wr_NC, ↓ln_NC, ↓rd_NP, ↓wr_NP, ↓ln_NP, ↓gI_V0, ↓pV_V0, ↓gI_V1, ↓pV_V1, ↓gI_V2, ↓pV_V2, ↓gI_V3, ↓pV_V3, ↓gR_V4, ↓gR_V5, ↓isO_V, ↓rd_VL, ↓gI_VB0, ↓pV_VB0, ↓gR_VB1, ↓gR_VB2, ↓isO_VB, ↓rd_VC, ↓wr_VC, ↓ln_VC, ↓rd_VP, ↓wr_VP, ↓ln_VP, ↓rd_SL, ↓rd_KP, ↓wr_KP, ↓gI_H0, ↓pV_H0, ↓gI_H1, ↓pV_H1, ↓gR_H2, ↓isO_H, ↓rd_HP, ↓gI_B0, ↓pV_B0, ↓gI_B1, ↓pV_B1, ↓gR_B2, ↓gR_B3, ↓gR_B4, ↓gR_B5, ↓gR_B6, ↓gR_B7, ↓gR_B8, ↓isO_B, ↓rd_B301, ↓wr_B301, ↓ln_B301, ↓rd_B302, ↓wr_B302, ↓ln_B302, ↓rd_B303, ↓wr_B303, ↓ln_B303, ↓rd_B304, ↓wr_B304, ↓ln_B304, ↓rd_B305, ↓wr_B305, ↓ln_B305, ↓rd_B306, ↓wr_B306, ↓ln_B306, ↓rd_B307, ↓wr_B307, ↓ln_B307, ↓gR_Tv, ↓isO_Tv, ↓rd_Tv9, ↓wr_Tv9, ↓ln_Tv9, pV_D11, pV_T0, rd_T2, wr_T2, pV_U0, rd_U2, wr_U2, pV_Ps0, pV_Ps1, pV_Ps2, pV_Ps3, pV_Ps4, pV_N0, pV_N1, pV_N2, pV_N3, rd_NL, pV_NB0, rd_NC, wr_NC, rd_NP, wr_NP, pV_V0, pV_V1, pV_V2, pV_V3, rd_VL, pV_VB0, rd_VC, wr_VC, rd_VP, wr_VP, rd_SL, rd_KP, wr_KP, pV_H0, pV_H1, rd_HP, pV_B0, pV_B1, rd_B301, wr_B301, rd_B302, wr_B302, rd_B303, wr_B303, rd_B304, wr_B304, rd_B305, wr_B305, rd_B306, wr_B306, rd_B307, wr_B307, rd_Tv9, wr_Tv9, J_l, J_neg, J_add, J_sub, J_mul, J_lt, J_le, J_eq, J_div2, J_rem2, J_shl1, J_orp, J_or, J_and, J_shr, J_ushr, J_max, J_min, J_abs, J_b0, ↓b0_ite, ↓b0_ite2, b0_ite, bI_r, bV_r, b01_ite, ite_true, ite_false, rZ_b, K_l, J_long, M_in]
  by_cases h0 : i < 6
  · rw [if_pos (show (i : Int) < 6 by omega)]
    have hv1 := hv.1
    have e1 := C_letterOf (h := hi z TD g w s1) (v := v) (i := i) (by omega) (by omega)
    have b1 := lett_bd (v := v) (i := i)
    have b2 := hv.2.2.1 i (by omega) (by omega)
    have ln := nmP_len (v := v) i
    simp (disch := omega) only [↓gR_D0, ↓gR_D1, ↓gR_D2, ↓gR_D3, ↓gR_D4, ↓gR_D5, ↓gR_D6, ↓gR_D7, ↓gR_D8, ↓gR_D9, ↓gR_D10, ↓gI_D11, ↓pV_D11, ↓isO_D, ↓gI_T0, ↓pV_T0, ↓gR_T1, ↓isO_T, ↓rd_T2, ↓wr_T2, ↓gI_U0, ↓pV_U0, ↓gR_U1, ↓isO_U, ↓rd_U2, ↓wr_U2, ↓gI_Ps0, ↓pV_Ps0, ↓gI_Ps1, ↓pV_Ps1, ↓gI_Ps2, ↓pV_Ps2, ↓gI_Ps3, ↓pV_Ps3, ↓gI_Ps4, ↓pV_Ps4, ↓isO_Ps, ↓gI_N0, ↓pV_N0, ↓gI_N1, ↓pV_N1, ↓gI_N2, ↓pV_N2, ↓gI_N3, ↓pV_N3, ↓gR_N4, ↓gR_N5, ↓isO_N, ↓rd_NL, ↓gI_NB0, ↓pV_NB0, ↓gR_NB1, ↓gR_NB2, ↓isO_NB, ↓rd_NC, ↓wr_NC, ↓ln_NC, ↓rd_NP, ↓wr_NP, ↓ln_NP, ↓gI_V0, ↓pV_V0, ↓gI_V1, ↓pV_V1, ↓gI_V2, ↓pV_V2, ↓gI_V3, ↓pV_V3, ↓gR_V4, ↓gR_V5, ↓isO_V, ↓rd_VL, ↓gI_VB0, ↓pV_VB0, ↓gR_VB1, ↓gR_VB2, ↓isO_VB, ↓rd_VC, ↓wr_VC, ↓ln_VC, ↓rd_VP, ↓wr_VP, ↓ln_VP, ↓rd_SL, ↓rd_KP, ↓wr_KP, ↓gI_H0, ↓pV_H0, ↓gI_H1, ↓pV_H1, ↓gR_H2, ↓isO_H, ↓rd_HP, ↓gI_B0, ↓pV_B0, ↓gI_B1, ↓pV_B1, ↓gR_B2, ↓gR_B3, ↓gR_B4, ↓gR_B5, ↓gR_B6, ↓gR_B7, ↓gR_B8, ↓isO_B, ↓rd_B301, ↓wr_B301, ↓ln_B301, ↓rd_B302, ↓wr_B302, ↓ln_B302, ↓rd_B303, ↓wr_B303, ↓ln_B303, ↓rd_B304, ↓wr_B304, ↓ln_B304, ↓rd_B305, ↓wr_B305, ↓ln_B305, ↓rd_B306, ↓wr_B306, ↓ln_B306, ↓rd_B307, ↓wr_B307, ↓ln_B307, ↓gR_Tv, ↓isO_Tv, ↓rd_Tv9, ↓wr_Tv9, ↓ln_Tv9, pV_D11, pV_T0, rd_T2, wr_T2, pV_U0, rd_U2, wr_U2, pV_Ps0, pV_Ps1, pV_Ps2, pV_Ps3, pV_Ps4, pV_N0, pV_N1, pV_N2, pV_N3, rd_NL, pV_NB0, rd_NC, wr_NC, rd_NP, wr_NP, pV_V0, pV_V1, pV_V2, pV_V3, rd_VL, pV_VB0, rd_VC, wr_VC, rd_VP, wr_VP, rd_SL, rd_KP, wr_KP, pV_H0, pV_H1, rd_HP, pV_B0, pV_B1, rd_B301, wr_B301, rd_B302, wr_B302, rd_B303, wr_B303, rd_B304, wr_B304, rd_B305, wr_B305, rd_B306, wr_B306, rd_B307, wr_B307, rd_Tv9, wr_Tv9, J_l, J_neg, J_add, J_sub, J_mul, J_lt, J_le, J_eq, J_div2, J_rem2, J_shl1, J_orp, J_or, J_and, J_shr, J_ushr, J_max, J_min, J_abs, J_b0, ↓b0_ite, ↓b0_ite2, b0_ite, bI_r, bV_r, b01_ite, ite_true, ite_false, rZ_b, K_l, J_long, M_in, e1]
    by_cases h1 : lett v i = 0
    · rw [if_pos h1]
      refine ih (i + 1, s1) ⟨by show i + 1 ≤ 6; omega, ?_⟩ (by show (6 : Int) - ((i + 1 : Nat) : Int) < 6 - (i : Int); omega)
      show TxC (l ++ (nmP v i ++ if lett v i = 0 then [] else [96 + lett v i])) s0 s1
      rw [if_pos h1, List.append_nil]
      exact hT1
    · rw [if_neg h1]
      obtain ⟨s2, e2, h2⟩ := C_addB (z := z) (g := g) (w := w) (b := 96 + lett v i) hT1 (by rw [List.length_append]; omega) (by omega)
      simp (disch := omega) only [↓gR_D0, ↓gR_D1, ↓gR_D2, ↓gR_D3, ↓gR_D4, ↓gR_D5, ↓gR_D6, ↓gR_D7, ↓gR_D8, ↓gR_D9, ↓gR_D10, ↓gI_D11, ↓pV_D11, ↓isO_D, ↓gI_T0, ↓pV_T0, ↓gR_T1, ↓isO_T, ↓rd_T2, ↓wr_T2, ↓gI_U0, ↓pV_U0, ↓gR_U1, ↓isO_U, ↓rd_U2, ↓wr_U2, ↓gI_Ps0, ↓pV_Ps0, ↓gI_Ps1, ↓pV_Ps1, ↓gI_Ps2, ↓pV_Ps2, ↓gI_Ps3, ↓pV_Ps3, ↓gI_Ps4, ↓pV_Ps4, ↓isO_Ps, ↓gI_N0, ↓pV_N0, ↓gI_N1, ↓pV_N1, ↓gI_N2, ↓pV_N2, ↓gI_N3, ↓pV_N3, ↓gR_N4, ↓gR_N5, ↓isO_N, ↓rd_NL, ↓gI_NB0, ↓pV_NB0, ↓gR_NB1, ↓gR_NB2, ↓isO_NB, ↓rd_NC, ↓wr_NC, ↓ln_NC, ↓rd_NP, ↓wr_NP, ↓ln_NP, ↓gI_V0, ↓pV_V0, ↓gI_V1, ↓pV_V1, ↓gI_V2, ↓pV_V2, ↓gI_V3, ↓pV_V3, ↓gR_V4, ↓gR_V5, ↓isO_V, ↓rd_VL, ↓gI_VB0, ↓pV_VB0, ↓gR_VB1, ↓gR_VB2, ↓isO_VB, ↓rd_VC, ↓wr_VC, ↓ln_VC, ↓rd_VP, ↓wr_VP, ↓ln_VP, ↓rd_SL, ↓rd_KP, ↓wr_KP, ↓gI_H0, ↓pV_H0, ↓gI_H1, ↓pV_H1, ↓gR_H2, ↓isO_H, ↓rd_HP, ↓gI_B0, ↓pV_B0, ↓gI_B1, ↓pV_B1, ↓gR_B2, ↓gR_B3, ↓gR_B4, ↓gR_B5, ↓gR_B6, ↓gR_B7, ↓gR_B8, ↓isO_B, ↓rd_B301, ↓wr_B301, ↓ln_B301, ↓rd_B302, ↓wr_B302, ↓ln_B302, ↓rd_B303, ↓wr_B303, ↓ln_B303, ↓rd_B304, ↓wr_B304, ↓ln_B304, ↓rd_B305, ↓wr_B305, ↓ln_B305, ↓rd_B306, ↓wr_B306, ↓ln_B306, ↓rd_B307, ↓wr_B307, ↓ln_B307, ↓gR_Tv, ↓isO_Tv, ↓rd_Tv9, ↓wr_Tv9, ↓ln_Tv9, pV_D11, pV_T0, rd_T2, wr_T2, pV_U0, rd_U2, wr_U2, pV_Ps0, pV_Ps1, pV_Ps2, pV_Ps3, pV_Ps4, pV_N0, pV_N1, pV_N2, pV_N3, rd_NL, pV_NB0, rd_NC, wr_NC, rd_NP, wr_NP, pV_V0, pV_V1, pV_V2, pV_V3, rd_VL, pV_VB0, rd_VC, wr_VC, rd_VP, wr_VP, rd_SL, rd_KP, wr_KP, pV_H0, pV_H1, rd_HP, pV_B0, pV_B1, rd_B301, wr_B301, rd_B302, wr_B302, rd_B303, wr_B303, rd_B304, wr_B304, rd_B305, wr_B305, rd_B306, wr_B306, rd_B307, wr_B307, rd_Tv9, wr_Tv9, J_l, J_neg, J_add, J_sub, J_mul, J_lt, J_le, J_eq, J_div2, J_rem2, J_shl1, J_orp, J_or, J_and, J_shr, J_ushr, J_max, J_min, J_abs, J_b0, ↓b0_ite, ↓b0_ite2, b0_ite, bI_r, bV_r, b01_ite, ite_true, ite_false, rZ_b, K_l, J_long, M_in, e2]
      refine ih (i + 1, s2) ⟨by show i + 1 ≤ 6; omega, ?_⟩ (by show (6 : Int) - ((i + 1 : Nat) : Int) < 6 - (i : Int); omega)
      show TxC (l ++ (nmP v i ++ if lett v i = 0 then [] else [96 + lett v i])) s0 s2
      rw [if_neg h1, ← List.append_assoc]
      exact h2
  · rw [if_neg (show ¬(i : Int) < 6 by omega)]
    refine ⟨s1, rfl, ?_⟩
    rw [show i = 6 by omega] at hT1
    exact hT1
/-! the model's text -/
def TxM (l : List Int) (i : Int) (m0 m : CT) : Prop := SyM (fun j => l.getD j.toNat 0) i l.length m0 m
theorem M_sayB {l : List Int} {b : Int} (h : TxM l i m0 m) (hl : l.length < 2000) (hi0 : -2147483648 ≤ i ∧ i < 2147483648) : ∃ m', qM_says y (J b) (hi y TM g w m) = rV (hi y TM g w m') ∧ TxM (l ++ [b]) i m0 m' := by
  obtain ⟨h1, h2, h3, h4, h5⟩ := h
  refine ⟨sayM m b, M_says (by omega) (by omega), ?_⟩
  have h' : SyM (fun j => (l ++ [b]).getD j.toNat 0) i l.length m0 m := by
    refine ⟨h1, h2, h3, h4, ?_⟩
    rw [h5]
    by_cases e : 0 ≤ i ∧ i < (l.length : Int)
    · rw [if_pos e, if_pos e]
      show l.getD i.toNat 0 = (l ++ [b]).getD i.toNat 0
      rw [getD_l (by omega)]
    · rw [if_neg e, if_neg e]
  have := SyM_s (v := b) h' (by omega) (by
    show b = (l ++ [b]).getD ((l.length : Int)).toNat 0
    rw [Int.toNat_natCast, getD_r])
  unfold TxM
  rw [show (((l ++ [b]).length : Nat) : Int) = (l.length : Int) + 1 by rw [List.length_append]; rfl]
  exact this
theorem M_number {l : List Int} (h : TxM l i m0 m) (hl : l.length + 2 < 2000) (hi0 : -2147483648 ≤ i ∧ i < 2147483648) (hv : 0 ≤ v ∧ v < 100) : ∃ m', qM_saysNumber y (J v) (hi y TM g w m) = rV (hi y TM g w m') ∧ TxM (l ++ numB v) i m0 m' := by
  -- the digits, from one of two tens
  have dig : ∀ (b : Int) (l1 : List Int) (m1 : CT), (b = 1 ∨ b = 10) → TxM l1 i m0 m1 → (b = 10 → l1 = l) → (b = 1 → v < 10 → l1 = l) → (b = 1 → ¬v < 10 → l1 = l ++ [48 + v / 10]) → (b = 10 → ¬v < 10) → ∃ m', qM_saysNumber_18 LF y (J v) (J b) (hi y TM g w m1) = rV (hi y TM g w m') ∧ TxM (l ++ numB v) i m0 m' := by
    intro b l1 m1 hb hT h10 h1a h1b hb10
    refine loopI (S := Int × List Int × CT) (fun N q => qM_saysNumber_18 N y (J v) (J q.1) (hi y TM g w q.2.2)) (fun X => ∃ m', X = rV (hi y TM g w m') ∧ TxM (l ++ numB v) i m0 m') (fun q => (q.1 = 0 ∨ q.1 = 1 ∨ q.1 = 10) ∧ TxM q.2.1 i m0 q.2.2 ∧ (q.1 = 10 → q.2.1 = l ∧ ¬v < 10) ∧ (q.1 = 1 → v < 10 → q.2.1 = l) ∧ (q.1 = 1 → ¬v < 10 → q.2.1 = l ++ [48 + v / 10]) ∧ (q.1 = 0 → q.2.1 = l ++ numB v)) (fun q => q.1) (by intro q hq; omega) (fun N q hq ih => ?_) (b, l1, m1) ⟨Or.inr hb, hT, fun q => ⟨h10 q, hb10 q⟩, h1a, h1b, fun q => by
      change b = 0 at q
      omega⟩ (by show b < 20000; omega)
    obtain ⟨b, l1, m1⟩ := q
    obtain ⟨hb, hT, h10, h1a, h1b, h00⟩ := hq
    change b = 0 ∨ b = 1 ∨ b = 10 at hb
    change TxM l1 i m0 m1 at hT
    change b = 10 → l1 = l ∧ ¬v < 10 at h10
    change b = 1 → v < 10 → l1 = l at h1a
    change b = 1 → ¬v < 10 → l1 = l ++ [48 + v / 10] at h1b
    change b = 0 → l1 = l ++ numB v at h00
    show ∃ m', qM_saysNumber_18_b (qM_saysNumber_18 N) y (J v) (J b) (hi y TM g w m1) = _ ∧ _
    unfold qM_saysNumber_18_b
    rcases hb with hb | hb | hb
    · rw [h00 hb] at hT
      simp (disch := omega) only [↓isO_M, ↓gL_H, ↓pL_H, ↓gI_M1, ↓gI_M2, ↓gI_M3, ↓gI_M4, ↓gI_M5, ↓gI_M6, ↓gI_M13, ↓gI_M22, ↓gI_M23, ↓gI_M24, ↓gI_M25, ↓gI_M27, ↓gI_M28, ↓gI_M29, ↓gI_M30, ↓gI_M31, ↓gI_M32, ↓gI_M33, ↓gI_M34, ↓gI_M35, ↓gI_M40, ↓gI_M41, ↓gI_M42, ↓gI_M43, ↓pV_M1, ↓pV_M2, ↓pV_M3, ↓pV_M4, ↓pV_M5, ↓pV_M6, ↓pV_M13, ↓pV_M22, ↓pV_M23, ↓pV_M24, ↓pV_M25, ↓pV_M27, ↓pV_M28, ↓pV_M29, ↓pV_M30, ↓pV_M31, ↓pV_M32, ↓pV_M33, ↓pV_M34, ↓pV_M35, ↓pV_M40, ↓pV_M41, ↓pV_M42, ↓pV_M43, ↓gR_M0, ↓gR_M7, ↓gR_M8, ↓gR_M9, ↓gR_M10, ↓gR_M11, ↓gR_M12, ↓gR_M14, ↓gR_M15, ↓gR_M16, ↓gR_M17, ↓gR_M18, ↓gR_M19, ↓gR_M20, ↓gR_M21, ↓gR_M36, ↓gR_M37, ↓gR_M38, ↓gR_M39, ↓rd_M1, ↓rd_M2, ↓rd_M3, ↓rd_M4, ↓rd_M5, ↓rd_M6, ↓rd_M7, ↓rd_M8, ↓rd_M9, ↓rd_M10, ↓rd_M11, ↓rd_M12, ↓rd_M13, ↓rd_M14, ↓rd_M15, ↓rd_M16, ↓rd_M17, ↓rd_M18, ↓rd_M19, ↓wr_M1, ↓wr_M2, ↓wr_M3, ↓wr_M4, ↓wr_M5, ↓wr_M6, ↓wr_M7, ↓wr_M8, ↓wr_M9, ↓wr_M10, ↓wr_M11, ↓wr_M12, ↓wr_M13, ↓wr_M14, ↓wr_M15, ↓wr_M16, ↓wr_M17, ↓wr_M18, ↓wr_M19, pL_H, pV_M1, pV_M2, pV_M3, pV_M4, pV_M5, pV_M6, pV_M13, pV_M22, pV_M23, pV_M24, pV_M25, pV_M27, pV_M28, pV_M29, pV_M30, pV_M31, pV_M32, pV_M33, pV_M34, pV_M35, pV_M40, pV_M41, pV_M42, pV_M43, rd_M1, rd_M2, rd_M3, rd_M4, rd_M5, rd_M6, rd_M7, rd_M8, rd_M9, rd_M10, rd_M11, rd_M12, rd_M13, rd_M14, rd_M15, rd_M16, rd_M17, rd_M18, rd_M19, wr_M1, wr_M2, wr_M3, wr_M4, wr_M5, wr_M6, wr_M7, wr_M8, wr_M9, wr_M10, wr_M11, wr_M12, wr_M13, wr_M14, wr_M15, wr_M16, wr_M17, wr_M18, wr_M19, J_l, J_neg, J_add, J_sub, J_mul, J_lt, J_le, J_eq, J_div2, J_rem2, J_shl1, J_orp, J_or, J_and, J_shr, J_ushr, J_max, J_min, J_abs, J_b0, ↓b0_ite, ↓b0_ite2, b0_ite, bI_r, bV_r, b01_ite, ite_true, ite_false, rZ_b, K_l, J_long, M_in]
      rw [if_neg (show ¬0 < b by omega)]
      exact ⟨m1, rfl, hT⟩
    · subst hb
      have hl1 : l1.length ≤ l.length + 1 := by
        by_cases h0 : v < 10
        · rw [h1a rfl h0]; omega
        · rw [h1b rfl h0, List.length_append]; exact Nat.le_refl _
      obtain ⟨m2, e2, h2⟩ := M_sayB (y := y) (g := g) (w := w) (b := 48 + v % 10) hT (by omega) hi0
      have zz : (J 1 = (0 : Int32)) = False := eq_false (by decide)
      rw [if_pos (by decide), if_neg (by decide)]
      simp (disch := omega) only [↓isO_M, ↓gL_H, ↓pL_H, ↓gI_M1, ↓gI_M2, ↓gI_M3, ↓gI_M4, ↓gI_M5, ↓gI_M6, ↓gI_M13, ↓gI_M22, ↓gI_M23, ↓gI_M24, ↓gI_M25, ↓gI_M27, ↓gI_M28, ↓gI_M29, ↓gI_M30, ↓gI_M31, ↓gI_M32, ↓gI_M33, ↓gI_M34, ↓gI_M35, ↓gI_M40, ↓gI_M41, ↓gI_M42, ↓gI_M43, ↓pV_M1, ↓pV_M2, ↓pV_M3, ↓pV_M4, ↓pV_M5, ↓pV_M6, ↓pV_M13, ↓pV_M22, ↓pV_M23, ↓pV_M24, ↓pV_M25, ↓pV_M27, ↓pV_M28, ↓pV_M29, ↓pV_M30, ↓pV_M31, ↓pV_M32, ↓pV_M33, ↓pV_M34, ↓pV_M35, ↓pV_M40, ↓pV_M41, ↓pV_M42, ↓pV_M43, ↓gR_M0, ↓gR_M7, ↓gR_M8, ↓gR_M9, ↓gR_M10, ↓gR_M11, ↓gR_M12, ↓gR_M14, ↓gR_M15, ↓gR_M16, ↓gR_M17, ↓gR_M18, ↓gR_M19, ↓gR_M20, ↓gR_M21, ↓gR_M36, ↓gR_M37, ↓gR_M38, ↓gR_M39, ↓rd_M1, ↓rd_M2, ↓rd_M3, ↓rd_M4, ↓rd_M5, ↓rd_M6, ↓rd_M7, ↓rd_M8, ↓rd_M9, ↓rd_M10, ↓rd_M11, ↓rd_M12, ↓rd_M13, ↓rd_M14, ↓rd_M15, ↓rd_M16, ↓rd_M17, ↓rd_M18, ↓rd_M19, ↓wr_M1, ↓wr_M2, ↓wr_M3, ↓wr_M4, ↓wr_M5, ↓wr_M6, ↓wr_M7, ↓wr_M8, ↓wr_M9, ↓wr_M10, ↓wr_M11, ↓wr_M12, ↓wr_M13, ↓wr_M14, ↓wr_M15, ↓wr_M16, ↓wr_M17, ↓wr_M18, ↓wr_M19, pL_H, pV_M1, pV_M2, pV_M3, pV_M4, pV_M5, pV_M6, pV_M13, pV_M22, pV_M23, pV_M24, pV_M25, pV_M27, pV_M28, pV_M29, pV_M30, pV_M31, pV_M32, pV_M33, pV_M34, pV_M35, pV_M40, pV_M41, pV_M42, pV_M43, rd_M1, rd_M2, rd_M3, rd_M4, rd_M5, rd_M6, rd_M7, rd_M8, rd_M9, rd_M10, rd_M11, rd_M12, rd_M13, rd_M14, rd_M15, rd_M16, rd_M17, rd_M18, rd_M19, wr_M1, wr_M2, wr_M3, wr_M4, wr_M5, wr_M6, wr_M7, wr_M8, wr_M9, wr_M10, wr_M11, wr_M12, wr_M13, wr_M14, wr_M15, wr_M16, wr_M17, wr_M18, wr_M19, J_l, J_neg, J_add, J_sub, J_mul, J_lt, J_le, J_eq, J_div2, J_rem2, J_shl1, J_orp, J_or, J_and, J_shr, J_ushr, J_max, J_min, J_abs, J_b0, ↓b0_ite, ↓b0_ite2, b0_ite, bI_r, bV_r, b01_ite, ite_true, ite_false, rZ_b, K_l, J_long, M_in, show v / 1 = v by omega, e2]
      refine ih (0, l1 ++ [48 + v % 10], m2) ⟨Or.inl rfl, h2, fun q => absurd q (show ¬(0 : Int) = 10 by omega), fun q => absurd q (show ¬(0 : Int) = 1 by omega), fun q => absurd q (show ¬(0 : Int) = 1 by omega), fun _ => ?_⟩ (by show (0 : Int) < 1; omega)
      show l1 ++ [48 + v % 10] = l ++ numB v
      unfold numB
      by_cases h0 : v < 10
      · rw [h1a rfl h0, if_pos h0, show v % 10 = v by omega]
      · rw [h1b rfl h0, if_neg h0, List.append_assoc]
        rfl
    · subst hb
      obtain ⟨hl1, h0⟩ := h10 rfl
      subst hl1
      obtain ⟨m2, e2, h2⟩ := M_sayB (y := y) (g := g) (w := w) (b := 48 + v / 10) hT (by omega) hi0
      rw [if_pos (by decide), if_neg (by decide)]
      simp (disch := omega) only [↓isO_M, ↓gL_H, ↓pL_H, ↓gI_M1, ↓gI_M2, ↓gI_M3, ↓gI_M4, ↓gI_M5, ↓gI_M6, ↓gI_M13, ↓gI_M22, ↓gI_M23, ↓gI_M24, ↓gI_M25, ↓gI_M27, ↓gI_M28, ↓gI_M29, ↓gI_M30, ↓gI_M31, ↓gI_M32, ↓gI_M33, ↓gI_M34, ↓gI_M35, ↓gI_M40, ↓gI_M41, ↓gI_M42, ↓gI_M43, ↓pV_M1, ↓pV_M2, ↓pV_M3, ↓pV_M4, ↓pV_M5, ↓pV_M6, ↓pV_M13, ↓pV_M22, ↓pV_M23, ↓pV_M24, ↓pV_M25, ↓pV_M27, ↓pV_M28, ↓pV_M29, ↓pV_M30, ↓pV_M31, ↓pV_M32, ↓pV_M33, ↓pV_M34, ↓pV_M35, ↓pV_M40, ↓pV_M41, ↓pV_M42, ↓pV_M43, ↓gR_M0, ↓gR_M7, ↓gR_M8, ↓gR_M9, ↓gR_M10, ↓gR_M11, ↓gR_M12, ↓gR_M14, ↓gR_M15, ↓gR_M16, ↓gR_M17, ↓gR_M18, ↓gR_M19, ↓gR_M20, ↓gR_M21, ↓gR_M36, ↓gR_M37, ↓gR_M38, ↓gR_M39, ↓rd_M1, ↓rd_M2, ↓rd_M3, ↓rd_M4, ↓rd_M5, ↓rd_M6, ↓rd_M7, ↓rd_M8, ↓rd_M9, ↓rd_M10, ↓rd_M11, ↓rd_M12, ↓rd_M13, ↓rd_M14, ↓rd_M15, ↓rd_M16, ↓rd_M17, ↓rd_M18, ↓rd_M19, ↓wr_M1, ↓wr_M2, ↓wr_M3, ↓wr_M4, ↓wr_M5, ↓wr_M6, ↓wr_M7, ↓wr_M8, ↓wr_M9, ↓wr_M10, ↓wr_M11, ↓wr_M12, ↓wr_M13, ↓wr_M14, ↓wr_M15, ↓wr_M16, ↓wr_M17, ↓wr_M18, ↓wr_M19, pL_H, pV_M1, pV_M2, pV_M3, pV_M4, pV_M5, pV_M6, pV_M13, pV_M22, pV_M23, pV_M24, pV_M25, pV_M27, pV_M28, pV_M29, pV_M30, pV_M31, pV_M32, pV_M33, pV_M34, pV_M35, pV_M40, pV_M41, pV_M42, pV_M43, rd_M1, rd_M2, rd_M3, rd_M4, rd_M5, rd_M6, rd_M7, rd_M8, rd_M9, rd_M10, rd_M11, rd_M12, rd_M13, rd_M14, rd_M15, rd_M16, rd_M17, rd_M18, rd_M19, wr_M1, wr_M2, wr_M3, wr_M4, wr_M5, wr_M6, wr_M7, wr_M8, wr_M9, wr_M10, wr_M11, wr_M12, wr_M13, wr_M14, wr_M15, wr_M16, wr_M17, wr_M18, wr_M19, J_l, J_neg, J_add, J_sub, J_mul, J_lt, J_le, J_eq, J_div2, J_rem2, J_shl1, J_orp, J_or, J_and, J_shr, J_ushr, J_max, J_min, J_abs, J_b0, ↓b0_ite, ↓b0_ite2, b0_ite, bI_r, bV_r, b01_ite, ite_true, ite_false, rZ_b, K_l, J_long, M_in, show v / 10 % 10 = v / 10 by omega, e2]
      exact ih (1, l1 ++ [48 + v / 10], m2) ⟨Or.inr (Or.inl rfl), h2, fun q => absurd q (show ¬(1 : Int) = 10 by omega), fun _ q => absurd q h0, fun _ _ => rfl, fun q => absurd q (show ¬(1 : Int) = 0 by omega)⟩ (by show (1 : Int) < 10; omega)
  unfold qM_saysNumber
  refine loopI (S := Int) (fun N b => qM_saysNumber_2 N y (J v) (J b) (hi y TM g w m)) (fun X => ∃ m', X = rV (hi y TM g w m') ∧ TxM (l ++ numB v) i m0 m') (fun b => b = 1 ∨ (b = 10 ∧ ¬v < 10)) (fun b => 10 - b) (by intro q hq; omega) (fun N b hb ih => ?_) 1 (Or.inl rfl) (by omega)
  show ∃ m', qM_saysNumber_2_b (qM_saysNumber_2 N) y (J v) (J b) (hi y TM g w m) = _ ∧ _
  unfold qM_saysNumber_2_b
  rcases hb with hb | ⟨hb, h0⟩
  · subst hb
    rw [if_neg (by decide)]
    simp (disch := omega) only [↓isO_M, ↓gL_H, ↓pL_H, ↓gI_M1, ↓gI_M2, ↓gI_M3, ↓gI_M4, ↓gI_M5, ↓gI_M6, ↓gI_M13, ↓gI_M22, ↓gI_M23, ↓gI_M24, ↓gI_M25, ↓gI_M27, ↓gI_M28, ↓gI_M29, ↓gI_M30, ↓gI_M31, ↓gI_M32, ↓gI_M33, ↓gI_M34, ↓gI_M35, ↓gI_M40, ↓gI_M41, ↓gI_M42, ↓gI_M43, ↓pV_M1, ↓pV_M2, ↓pV_M3, ↓pV_M4, ↓pV_M5, ↓pV_M6, ↓pV_M13, ↓pV_M22, ↓pV_M23, ↓pV_M24, ↓pV_M25, ↓pV_M27, ↓pV_M28, ↓pV_M29, ↓pV_M30, ↓pV_M31, ↓pV_M32, ↓pV_M33, ↓pV_M34, ↓pV_M35, ↓pV_M40, ↓pV_M41, ↓pV_M42, ↓pV_M43, ↓gR_M0, ↓gR_M7, ↓gR_M8, ↓gR_M9, ↓gR_M10, ↓gR_M11, ↓gR_M12, ↓gR_M14, ↓gR_M15, ↓gR_M16, ↓gR_M17, ↓gR_M18, ↓gR_M19, ↓gR_M20, ↓gR_M21, ↓gR_M36, ↓gR_M37, ↓gR_M38, ↓gR_M39, ↓rd_M1, ↓rd_M2, ↓rd_M3, ↓rd_M4, ↓rd_M5, ↓rd_M6, ↓rd_M7, ↓rd_M8, ↓rd_M9, ↓rd_M10, ↓rd_M11, ↓rd_M12, ↓rd_M13, ↓rd_M14, ↓rd_M15, ↓rd_M16, ↓rd_M17, ↓rd_M18, ↓rd_M19, ↓wr_M1, ↓wr_M2, ↓wr_M3, ↓wr_M4, ↓wr_M5, ↓wr_M6, ↓wr_M7, ↓wr_M8, ↓wr_M9, ↓wr_M10, ↓wr_M11, ↓wr_M12, ↓wr_M13, ↓wr_M14, ↓wr_M15, ↓wr_M16, ↓wr_M17, ↓wr_M18, ↓wr_M19, pL_H, pV_M1, pV_M2, pV_M3, pV_M4, pV_M5, pV_M6, pV_M13, pV_M22, pV_M23, pV_M24, pV_M25, pV_M27, pV_M28, pV_M29, pV_M30, pV_M31, pV_M32, pV_M33, pV_M34, pV_M35, pV_M40, pV_M41, pV_M42, pV_M43, rd_M1, rd_M2, rd_M3, rd_M4, rd_M5, rd_M6, rd_M7, rd_M8, rd_M9, rd_M10, rd_M11, rd_M12, rd_M13, rd_M14, rd_M15, rd_M16, rd_M17, rd_M18, rd_M19, wr_M1, wr_M2, wr_M3, wr_M4, wr_M5, wr_M6, wr_M7, wr_M8, wr_M9, wr_M10, wr_M11, wr_M12, wr_M13, wr_M14, wr_M15, wr_M16, wr_M17, wr_M18, wr_M19, J_l, J_neg, J_add, J_sub, J_mul, J_lt, J_le, J_eq, J_div2, J_rem2, J_shl1, J_orp, J_or, J_and, J_shr, J_ushr, J_max, J_min, J_abs, J_b0, ↓b0_ite, ↓b0_ite2, b0_ite, bI_r, bV_r, b01_ite, ite_true, ite_false, rZ_b, K_l, J_long, M_in, show v / 1 = v by omega]
    by_cases h0 : v < 10
    · rw [if_neg (show ¬9 < v by omega)]
      exact dig 1 l m (Or.inl rfl) h (fun q => absurd q (by omega)) (fun _ _ => rfl) (fun _ q => absurd h0 q) (fun q => absurd q (by omega))
    · rw [if_pos (show 9 < v by omega)]
      exact ih 10 (Or.inr ⟨rfl, h0⟩) (by omega)
  · subst hb
    rw [if_neg (by decide)]
    simp (disch := omega) only [↓isO_M, ↓gL_H, ↓pL_H, ↓gI_M1, ↓gI_M2, ↓gI_M3, ↓gI_M4, ↓gI_M5, ↓gI_M6, ↓gI_M13, ↓gI_M22, ↓gI_M23, ↓gI_M24, ↓gI_M25, ↓gI_M27, ↓gI_M28, ↓gI_M29, ↓gI_M30, ↓gI_M31, ↓gI_M32, ↓gI_M33, ↓gI_M34, ↓gI_M35, ↓gI_M40, ↓gI_M41, ↓gI_M42, ↓gI_M43, ↓pV_M1, ↓pV_M2, ↓pV_M3, ↓pV_M4, ↓pV_M5, ↓pV_M6, ↓pV_M13, ↓pV_M22, ↓pV_M23, ↓pV_M24, ↓pV_M25, ↓pV_M27, ↓pV_M28, ↓pV_M29, ↓pV_M30, ↓pV_M31, ↓pV_M32, ↓pV_M33, ↓pV_M34, ↓pV_M35, ↓pV_M40, ↓pV_M41, ↓pV_M42, ↓pV_M43, ↓gR_M0, ↓gR_M7, ↓gR_M8, ↓gR_M9, ↓gR_M10, ↓gR_M11, ↓gR_M12, ↓gR_M14, ↓gR_M15, ↓gR_M16, ↓gR_M17, ↓gR_M18, ↓gR_M19, ↓gR_M20, ↓gR_M21, ↓gR_M36, ↓gR_M37, ↓gR_M38, ↓gR_M39, ↓rd_M1, ↓rd_M2, ↓rd_M3, ↓rd_M4, ↓rd_M5, ↓rd_M6, ↓rd_M7, ↓rd_M8, ↓rd_M9, ↓rd_M10, ↓rd_M11, ↓rd_M12, ↓rd_M13, ↓rd_M14, ↓rd_M15, ↓rd_M16, ↓rd_M17, ↓rd_M18, ↓rd_M19, ↓wr_M1, ↓wr_M2, ↓wr_M3, ↓wr_M4, ↓wr_M5, ↓wr_M6, ↓wr_M7, ↓wr_M8, ↓wr_M9, ↓wr_M10, ↓wr_M11, ↓wr_M12, ↓wr_M13, ↓wr_M14, ↓wr_M15, ↓wr_M16, ↓wr_M17, ↓wr_M18, ↓wr_M19, pL_H, pV_M1, pV_M2, pV_M3, pV_M4, pV_M5, pV_M6, pV_M13, pV_M22, pV_M23, pV_M24, pV_M25, pV_M27, pV_M28, pV_M29, pV_M30, pV_M31, pV_M32, pV_M33, pV_M34, pV_M35, pV_M40, pV_M41, pV_M42, pV_M43, rd_M1, rd_M2, rd_M3, rd_M4, rd_M5, rd_M6, rd_M7, rd_M8, rd_M9, rd_M10, rd_M11, rd_M12, rd_M13, rd_M14, rd_M15, rd_M16, rd_M17, rd_M18, rd_M19, wr_M1, wr_M2, wr_M3, wr_M4, wr_M5, wr_M6, wr_M7, wr_M8, wr_M9, wr_M10, wr_M11, wr_M12, wr_M13, wr_M14, wr_M15, wr_M16, wr_M17, wr_M18, wr_M19, J_l, J_neg, J_add, J_sub, J_mul, J_lt, J_le, J_eq, J_div2, J_rem2, J_shl1, J_orp, J_or, J_and, J_shr, J_ushr, J_max, J_min, J_abs, J_b0, ↓b0_ite, ↓b0_ite2, b0_ite, bI_r, bV_r, b01_ite, ite_true, ite_false, rZ_b, K_l, J_long, M_in]
    rw [if_neg (show ¬9 < v / 10 by omega)]
    exact dig 10 l m (Or.inr rfl) h (fun _ => rfl) (fun q => absurd q (by omega)) (fun q => absurd q (by omega)) (fun _ => h0)
/-- long numbers shifted -/
theorem shk64 (h : 0 ≤ c ∧ c < 64) : (((J c).toInt64 &&& 63).toBitVec.smod 64).toNat = c.toNat := by
  obtain ⟨n, rfl⟩ : ∃ n : Nat, c = n := ⟨c.toNat, by omega⟩
  have key : ∀ i : Fin 64, (((J i.1).toInt64 &&& 63).toBitVec.smod 64).toNat = i.1 := by decide +kernel
  exact key ⟨n, by omega⟩
theorem K_shr (hv : 0 ≤ v ∧ v < 9223372036854775808) (h : 0 ≤ c ∧ c < 64) : jlshr (K v) (J c) = K (v / pw c) := by
  unfold jlshr
  apply Int64.toInt_inj.mp
  show (K v >>> ((J c).toInt64 &&& 63)).toBitVec.toInt = _
  rw [Int64.toBitVec_shiftRight, BitVec.toInt_sshiftRight', shk64 h]
  show (K v).toInt >>> c.toNat = _
  have h1 := pw_pos (n := c)
  have h2 : 0 ≤ v / pw c := Int.ediv_nonneg hv.1 (by omega)
  have h3 : v / pw c ≤ v := Int.ediv_le_self _ hv.1
  rw [K_to (by omega), K_to (by omega), Int.shiftRight_eq_div_pow]
  rfl
theorem K_bv (n : Nat) : (K n).toBitVec = BitVec.ofNat 64 n := by
  show (Int64.ofInt n).toBitVec = _
  rw [Int64.toBitVec_ofInt]
  exact BitVec.ofInt_natCast 64 n
theorem K_and {a b : Int} (h : 0 ≤ a ∧ 0 ≤ b) : K a &&& K b = K (iand a b) := by
  obtain ⟨n, rfl⟩ : ∃ n : Nat, a = n := ⟨a.toNat, by omega⟩
  obtain ⟨m, rfl⟩ : ∃ n : Nat, b = n := ⟨b.toNat, by omega⟩
  apply Int64.toBitVec.inj
  rw [Int64.toBitVec_and, K_bv, K_bv]
  unfold iand
  rw [K_bv, Int.toNat_natCast, Int.toNat_natCast]
  apply BitVec.eq_of_getLsbD_eq
  intro i hi
  simp [hi]
theorem K_32 (h : 0 ≤ v ∧ v < 32) : (K v).toInt32 = J v := by
  have key : ∀ i : Fin 32, (K i.1).toInt32 = J i.1 := by decide +kernel
  have := key ⟨v.toNat, by omega⟩
  rw [show ((v.toNat : Nat) : Int) = v by omega] at this
  exact this
theorem K_digit (hv : 0 ≤ v ∧ v < 9223372036854775808) (h : 0 ≤ c ∧ c < 64) : ((jlshr (K v) (J c)) &&& K 31).toInt32 = J (v / pw c % 32) := by
  have h1 := pw_pos (n := c)
  have h2 : 0 ≤ v / pw c := Int.ediv_nonneg hv.1 (by omega)
  rw [K_shr hv h, K_and (by omega), iand31 h2, K_32 (by omega)]
def wdP (v : Int) : Nat → List Int
  | 0 => []
  | k + 1 => wdP v k ++ if v / pw (35 - 5 * k) % 32 = 0 then [] else [96 + v / pw (35 - 5 * k) % 32]
theorem wdP_len : ∀ k : Nat, (wdP v k).length ≤ k := by
  intro k
  induction k with
  | zero => exact Nat.le_refl 0
  | succ k ih =>
    show (wdP v k ++ if v / pw (35 - 5 * k) % 32 = 0 then [] else [96 + v / pw (35 - 5 * k) % 32]).length ≤ k + 1
    rw [List.length_append]
    split
    · exact Nat.le_succ_of_le ih
    · exact Nat.succ_le_succ ih
theorem M_word {l : List Int} (h : TxM l i m0 m) (hl : l.length + 8 < 2000) (hi0 : -2147483648 ≤ i ∧ i < 2147483648) (hv : 0 ≤ v ∧ v < 9223372036854775808) : ∃ m', qM_saysWord y (K v) (hi y TM g w m) = rV (hi y TM g w m') ∧ TxM (l ++ wdP v 8) i m0 m' := by
  unfold qM_saysWord
  refine loopI (S := Nat × CT) (fun N q => qM_saysWord_3 N y (K v) (J (35 - 5 * q.1)) (hi y TM g w q.2)) (fun X => ∃ m', X = rV (hi y TM g w m') ∧ TxM (l ++ wdP v 8) i m0 m') (fun q => q.1 ≤ 8 ∧ TxM (l ++ wdP v q.1) i m0 q.2) (fun q => 8 - q.1) (by intro q hq; omega) (fun N q hq ih => ?_) (0, m) ⟨Nat.zero_le _, by show TxM (l ++ wdP v 0) i m0 m; rw [show wdP v 0 = [] from rfl, List.append_nil]; exact h⟩ (by show (8 : Int) - ((0 : Nat) : Int) < 20000; omega)
  obtain ⟨k, m1⟩ := q
  obtain ⟨hk, hT1⟩ := hq
  change k ≤ 8 at hk
  change TxM (l ++ wdP v k) i m0 m1 at hT1
  show ∃ m', qM_saysWord_3_b (qM_saysWord_3 N) y (K v) (J (35 - 5 * k)) (hi y TM g w m1) = _ ∧ _
  unfold qM_saysWord_3_b
  by_cases h0 : k < 8
  · have dg := K_digit (v := v) (c := 35 - 5 * k) hv (by omega)
    have ln := wdP_len (v := v) k
    have e5 : (35 - 5 * (k : Int) + -5) = 35 - 5 * ((k + 1 : Nat) : Int) := by omega
    simp (disch := omega) only [↓isO_M, ↓gL_H, ↓pL_H, ↓gI_M1, ↓gI_M2, ↓gI_M3, ↓gI_M4, ↓gI_M5, ↓gI_M6, ↓gI_M13, ↓gI_M22, ↓gI_M23, ↓gI_M24, ↓gI_M25, ↓gI_M27, ↓gI_M28, ↓gI_M29, ↓gI_M30, ↓gI_M31, ↓gI_M32, ↓gI_M33, ↓gI_M34, ↓gI_M35, ↓gI_M40, ↓gI_M41, ↓gI_M42, ↓gI_M43, ↓pV_M1, ↓pV_M2, ↓pV_M3, ↓pV_M4, ↓pV_M5, ↓pV_M6, ↓pV_M13, ↓pV_M22, ↓pV_M23, ↓pV_M24, ↓pV_M25, ↓pV_M27, ↓pV_M28, ↓pV_M29, ↓pV_M30, ↓pV_M31, ↓pV_M32, ↓pV_M33, ↓pV_M34, ↓pV_M35, ↓pV_M40, ↓pV_M41, ↓pV_M42, ↓pV_M43, ↓gR_M0, ↓gR_M7, ↓gR_M8, ↓gR_M9, ↓gR_M10, ↓gR_M11, ↓gR_M12, ↓gR_M14, ↓gR_M15, ↓gR_M16, ↓gR_M17, ↓gR_M18, ↓gR_M19, ↓gR_M20, ↓gR_M21, ↓gR_M36, ↓gR_M37, ↓gR_M38, ↓gR_M39, ↓rd_M1, ↓rd_M2, ↓rd_M3, ↓rd_M4, ↓rd_M5, ↓rd_M6, ↓rd_M7, ↓rd_M8, ↓rd_M9, ↓rd_M10, ↓rd_M11, ↓rd_M12, ↓rd_M13, ↓rd_M14, ↓rd_M15, ↓rd_M16, ↓rd_M17, ↓rd_M18, ↓rd_M19, ↓wr_M1, ↓wr_M2, ↓wr_M3, ↓wr_M4, ↓wr_M5, ↓wr_M6, ↓wr_M7, ↓wr_M8, ↓wr_M9, ↓wr_M10, ↓wr_M11, ↓wr_M12, ↓wr_M13, ↓wr_M14, ↓wr_M15, ↓wr_M16, ↓wr_M17, ↓wr_M18, ↓wr_M19, pL_H, pV_M1, pV_M2, pV_M3, pV_M4, pV_M5, pV_M6, pV_M13, pV_M22, pV_M23, pV_M24, pV_M25, pV_M27, pV_M28, pV_M29, pV_M30, pV_M31, pV_M32, pV_M33, pV_M34, pV_M35, pV_M40, pV_M41, pV_M42, pV_M43, rd_M1, rd_M2, rd_M3, rd_M4, rd_M5, rd_M6, rd_M7, rd_M8, rd_M9, rd_M10, rd_M11, rd_M12, rd_M13, rd_M14, rd_M15, rd_M16, rd_M17, rd_M18, rd_M19, wr_M1, wr_M2, wr_M3, wr_M4, wr_M5, wr_M6, wr_M7, wr_M8, wr_M9, wr_M10, wr_M11, wr_M12, wr_M13, wr_M14, wr_M15, wr_M16, wr_M17, wr_M18, wr_M19, J_l, J_neg, J_add, J_sub, J_mul, J_lt, J_le, J_eq, J_div2, J_rem2, J_shl1, J_orp, J_or, J_and, J_shr, J_ushr, J_max, J_min, J_abs, J_b0, ↓b0_ite, ↓b0_ite2, b0_ite, bI_r, bV_r, b01_ite, ite_true, ite_false, rZ_b, K_l, J_long, M_in, dg]
    rw [if_neg (show ¬35 - 5 * (k : Int) < 0 by omega)]
    by_cases h1 : v / pw (35 - 5 * k) % 32 = 0
    · rw [if_neg (show ¬0 < v / pw (35 - 5 * k) % 32 by omega), e5]
      refine ih (k + 1, m1) ⟨by show k + 1 ≤ 8; omega, ?_⟩ (by show (8 : Int) - ((k + 1 : Nat) : Int) < 8 - (k : Int); omega)
      show TxM (l ++ (wdP v k ++ if v / pw (35 - 5 * k) % 32 = 0 then [] else [96 + v / pw (35 - 5 * k) % 32])) i m0 m1
      rw [if_pos h1, List.append_nil]
      exact hT1
    · rw [if_pos (show 0 < v / pw (35 - 5 * k) % 32 by omega)]
      obtain ⟨m2, e2, h2⟩ := M_sayB (y := y) (g := g) (w := w) (b := 96 + v / pw (35 - 5 * k) % 32) hT1 (by rw [List.length_append]; omega) hi0
      simp (disch := omega) only [↓isO_M, ↓gL_H, ↓pL_H, ↓gI_M1, ↓gI_M2, ↓gI_M3, ↓gI_M4, ↓gI_M5, ↓gI_M6, ↓gI_M13, ↓gI_M22, ↓gI_M23, ↓gI_M24, ↓gI_M25, ↓gI_M27, ↓gI_M28, ↓gI_M29, ↓gI_M30, ↓gI_M31, ↓gI_M32, ↓gI_M33, ↓gI_M34, ↓gI_M35, ↓gI_M40, ↓gI_M41, ↓gI_M42, ↓gI_M43, ↓pV_M1, ↓pV_M2, ↓pV_M3, ↓pV_M4, ↓pV_M5, ↓pV_M6, ↓pV_M13, ↓pV_M22, ↓pV_M23, ↓pV_M24, ↓pV_M25, ↓pV_M27, ↓pV_M28, ↓pV_M29, ↓pV_M30, ↓pV_M31, ↓pV_M32, ↓pV_M33, ↓pV_M34, ↓pV_M35, ↓pV_M40, ↓pV_M41, ↓pV_M42, ↓pV_M43, ↓gR_M0, ↓gR_M7, ↓gR_M8, ↓gR_M9, ↓gR_M10, ↓gR_M11, ↓gR_M12, ↓gR_M14, ↓gR_M15, ↓gR_M16, ↓gR_M17, ↓gR_M18, ↓gR_M19, ↓gR_M20, ↓gR_M21, ↓gR_M36, ↓gR_M37, ↓gR_M38, ↓gR_M39, ↓rd_M1, ↓rd_M2, ↓rd_M3, ↓rd_M4, ↓rd_M5, ↓rd_M6, ↓rd_M7, ↓rd_M8, ↓rd_M9, ↓rd_M10, ↓rd_M11, ↓rd_M12, ↓rd_M13, ↓rd_M14, ↓rd_M15, ↓rd_M16, ↓rd_M17, ↓rd_M18, ↓rd_M19, ↓wr_M1, ↓wr_M2, ↓wr_M3, ↓wr_M4, ↓wr_M5, ↓wr_M6, ↓wr_M7, ↓wr_M8, ↓wr_M9, ↓wr_M10, ↓wr_M11, ↓wr_M12, ↓wr_M13, ↓wr_M14, ↓wr_M15, ↓wr_M16, ↓wr_M17, ↓wr_M18, ↓wr_M19, pL_H, pV_M1, pV_M2, pV_M3, pV_M4, pV_M5, pV_M6, pV_M13, pV_M22, pV_M23, pV_M24, pV_M25, pV_M27, pV_M28, pV_M29, pV_M30, pV_M31, pV_M32, pV_M33, pV_M34, pV_M35, pV_M40, pV_M41, pV_M42, pV_M43, rd_M1, rd_M2, rd_M3, rd_M4, rd_M5, rd_M6, rd_M7, rd_M8, rd_M9, rd_M10, rd_M11, rd_M12, rd_M13, rd_M14, rd_M15, rd_M16, rd_M17, rd_M18, rd_M19, wr_M1, wr_M2, wr_M3, wr_M4, wr_M5, wr_M6, wr_M7, wr_M8, wr_M9, wr_M10, wr_M11, wr_M12, wr_M13, wr_M14, wr_M15, wr_M16, wr_M17, wr_M18, wr_M19, J_l, J_neg, J_add, J_sub, J_mul, J_lt, J_le, J_eq, J_div2, J_rem2, J_shl1, J_orp, J_or, J_and, J_shr, J_ushr, J_max, J_min, J_abs, J_b0, ↓b0_ite, ↓b0_ite2, b0_ite, bI_r, bV_r, b01_ite, ite_true, ite_false, rZ_b, K_l, J_long, M_in, e2]
      rw [e5]
      refine ih (k + 1, m2) ⟨by show k + 1 ≤ 8; omega, ?_⟩ (by show (8 : Int) - ((k + 1 : Nat) : Int) < 8 - (k : Int); omega)
      show TxM (l ++ (wdP v k ++ if v / pw (35 - 5 * k) % 32 = 0 then [] else [96 + v / pw (35 - 5 * k) % 32])) i m0 m2
      rw [if_neg h1, ← List.append_assoc]
      exact h2
  · simp (disch := omega) only [J_l, J_neg, J_add, J_sub, J_mul, J_lt, J_le, J_eq, J_div2, J_rem2, J_shl1, J_orp, J_or, J_and, J_shr, J_ushr, J_max, J_min, J_abs, J_b0, ↓b0_ite, ↓b0_ite2, b0_ite, bI_r, bV_r, b01_ite, ite_true, ite_false, rZ_b, K_l, J_long, M_in]
    rw [if_pos (show 35 - 5 * (k : Int) < 0 by omega)]
    refine ⟨m1, rfl, ?_⟩
    rw [show k = 8 by omega] at hT1
    exact hT1
theorem wdP_nm (hv : 0 ≤ v ∧ v < 1073741824) : ∀ k : Nat, wdP v (k + 2) = nmP v k := by
  intro k
  induction k with
  | zero =>
    have p35 : pw 35 = 34359738368 := by decide
    have p30 : pw 30 = 1073741824 := by decide
    have e35 : v / pw (35 - 5 * ((0 : Nat) : Int)) % 32 = 0 := by
      show v / pw 35 % 32 = 0
      rw [p35]; omega
    have e30 : v / pw (35 - 5 * ((1 : Nat) : Int)) % 32 = 0 := by
      show v / pw 30 % 32 = 0
      rw [p30]; omega
    show ([] ++ (if v / pw (35 - 5 * ((0 : Nat) : Int)) % 32 = 0 then [] else [96 + v / pw (35 - 5 * ((0 : Nat) : Int)) % 32])) ++ (if v / pw (35 - 5 * ((1 : Nat) : Int)) % 32 = 0 then [] else [96 + v / pw (35 - 5 * ((1 : Nat) : Int)) % 32]) = []
    rw [if_pos e35, if_pos e30]
    rfl
  | succ k ih =>
    show wdP v (k + 2) ++ (if v / pw (35 - 5 * ((k + 2 : Nat) : Int)) % 32 = 0 then [] else [96 + v / pw (35 - 5 * ((k + 2 : Nat) : Int)) % 32]) = nmP v k ++ if lett v k = 0 then [] else [96 + lett v k]
    have e : v / pw (35 - 5 * ((k + 2 : Nat) : Int)) % 32 = lett v k := by
      unfold lett
      rw [show (35 - 5 * ((k + 2 : Nat) : Int)) = 25 - 5 * (k : Int) by omega]
    rw [ih, e]
end WD
