/-! the class keeps the labels that fit -/
section CK
variable {z : Nat} {g : XH} {w : Int64} {s s0 : CT} {W W' row lo lg sn r0 f f' : Int → Int} {wd hg c c' i j l n p v t k x a b : Int} {h : XH}
theorem sm_le (h : ∀ i, 0 ≤ i → i < n → f i ≤ f' i) : sm f n ≤ sm f' n := by
  by_cases hn : 0 ≤ n
  · exact int_ind_le (P := fun n => sm f n ≤ sm f' n) (N := n) (by rw [sm_0, sm_0]; omega) (fun k h1 h2 ih => by
      rw [sm_s h1, sm_s h1]
      have := h k h1 h2
      omega) n hn (Int.le_refl n)
  · rw [sm_neg (by omega), sm_neg (by omega)]
    omega
theorem sm_zero (h : ∀ i, 0 ≤ i → i < n → f i = 0) : sm f n = 0 := by
  by_cases hn : 0 ≤ n
  · exact int_ind_le (P := fun n => sm f n = 0) (N := n) sm_0 (fun k h1 h2 ih => by rw [sm_s h1, ih, h k h1 h2]; rfl) n hn (Int.le_refl n)
  · exact sm_neg (by omega)
theorem sm_add : sm (fun i => f i + f' i) n = sm f n + sm f' n := by
  by_cases hn : 0 ≤ n
  · exact int_ind (P := fun n => sm (fun i => f i + f' i) n = sm f n + sm f' n) (by rw [sm_0, sm_0, sm_0]; rfl) (fun k h1 ih => by rw [sm_s h1, sm_s h1, sm_s h1, ih]; omega) n hn
  · rw [sm_neg (by omega), sm_neg (by omega), sm_neg (by omega)]; rfl
theorem sm_comm {F : Int → Int → Int} (ha : 0 ≤ a) : sm (fun i => sm (fun j => F i j) b) a = sm (fun j => sm (fun i => F i j) a) b := by
  refine int_ind (P := fun a => sm (fun i => sm (fun j => F i j) b) a = sm (fun j => sm (fun i => F i j) a) b) ?_ (fun k h1 ih => ?_) a ha
  · rw [sm_0, sm_zero (fun j _ _ => sm_0)]
  · rw [sm_s h1, ih, ← sm_add]
    exact sm_congr fun j _ _ => (sm_s h1).symm
theorem sm_delta (h : 0 ≤ x ∧ x < n) : sm (fun c => b01 (x = c)) n = 1 := by
  have key := int_ind_le (P := fun n => sm (fun c => b01 (x = c)) n = if x < n then 1 else 0) (N := n) (by rw [sm_0, if_neg (by omega)]) (fun k h1 h2 ih => by
    rw [sm_s h1, ih]
    by_cases e : x = k
    · rw [b01_pos e, if_neg (by omega), if_pos (by omega)]; rfl
    · rw [b01_neg e]
      by_cases h3 : x < k
      · rw [if_pos h3, if_pos (by omega)]; rfl
      · rw [if_neg h3, if_neg (by omega)]; rfl) n (by omega) (Int.le_refl n)
  rw [key, if_pos h.2]
theorem SN_sum (hn : 0 ≤ n) (hL : ∀ l, 0 ≤ l → l < n → LG W l) : sm (fun c => SN W n c) 1600 = sm (fun l => cT W l) n := by
  show sm (fun c => sm (fun l => cs W l (cT W l) c) n) 1600 = _
  rw [sm_comm (by omega)]
  refine sm_congr fun l h1 h2 => ?_
  have hT := (hL l h1 h2).1.2.1
  show sm (fun c => sm (fun t => b01 (sc W l t = c)) (cT W l)) 1600 = cT W l
  rw [sm_comm (by omega)]
  rw [sm_congr (g := fun _ => 1) (fun t h3 h4 => sm_delta (sc_in (hL l h1 h2) h3 h4))]
  have := sm_bd (f := fun _ => 1) (a := 1) (b := 1) (n := cT W l) (by omega) (fun i _ _ => by omega)
  omega
theorem rk_160 (hn : 0 ≤ n ∧ n ≤ 8) (hL : ∀ l, 0 ≤ l → l < n → LG W l) (hG : GN lo lg (SN W n) wd hg W' 1600) : rk W' 1600 ≤ 160 := by
  have h1 : rk W' 1600 ≤ sm (fun c => SN W n c) 1600 := sm_le fun c c1 c2 => by
    have h0 := SN_bd (W := W) (c := c) hn (fun l a b => (hL l a b).1)
    by_cases hl : 0 ≤ lbl W' c
    · rw [b01_pos hl]
      rcases hG c c1 c2 with e | ⟨_, _, e, _⟩ <;> omega
    · rw [b01_neg hl]
      omega
  rw [SN_sum hn.1 hL] at h1
  have := sm_bd (f := fun l => cT W l) (a := 0) (b := 20) hn.1 (fun i i1 i2 => by have := (hL i i1 i2).1.2.1; omega)
  omega
/-- the class's marks show a row of owners -/
def MkR (q row : Int → Int) : Prop := ∀ i, 0 ≤ i → i < 1600 → q i = if row i < 0 then 0 else row i + 1
theorem MkR_pnt {q : Int → Int} (h : MkR q row) (hc : 0 ≤ c) : MkR (pnt q x k (c + 1)) (pnt row x k c) := by
  intro i h1 h2
  unfold pnt
  by_cases e : x ≤ i ∧ i < x + k
  · rw [if_pos e, if_pos e, if_neg (by omega)]
  · rw [if_neg e, if_neg e]
    exact h i h1 h2
theorem MkR_pnt0 {q : Int → Int} (h : MkR q row) : MkR (pnt q x k 0) (pnt row x k (-2)) := by
  intro i h1 h2
  unfold pnt
  by_cases e : x ≤ i ∧ i < x + k
  · rw [if_pos e, if_pos e, if_pos (by omega)]
  · rw [if_neg e, if_neg e]
    exact h i h1 h2
theorem MkR_oth {q : Int → Int} (h : MkR q row) (h1 : 0 ≤ i) (h2 : i < 1600) : oth (fun i => q i - 1) c i ↔ oth row c i := by
  have := h i h1 h2
  unfold oth
  constructor
  · rintro ⟨a1, a2⟩
    change 0 ≤ q i - 1 at a1
    change q i - 1 ≠ c at a2
    by_cases e : row i < 0
    · rw [if_pos e] at this; omega
    · rw [if_neg e] at this; omega
  · rintro ⟨a1, a2⟩
    show 0 ≤ q i - 1 ∧ q i - 1 ≠ c
    rw [if_neg (by omega)] at this
    omega
/-- the board as a world has it: lines and marks -/
def BdI (W : Int → Int) (wd hg n : Int) (row : Int → Int) (s : CT) : Prop := (s 300 0 = wd ∧ s 300 1 = hg) ∧ BdL W s n ∧ MkR (s 306) row
theorem RsI_of (hw : 4 ≤ wd ∧ wd ≤ 40) (hh : 4 ≤ hg ∧ hg ≤ 40) (hn : 0 ≤ n) (hL : ∀ l, 0 ≤ l → l < n → LG W l) (hB : BdI W wd hg n row s) (hr : ∀ i, 0 ≤ i → i < 1600 → row i < 1600) : RsI s := by
  obtain ⟨⟨b1, b2⟩, b3, b4⟩ := hB
  refine ⟨by omega, by omega, fun i i1 i2 => ⟨?_, ?_, ?_⟩⟩
  · rw [(b3.1 i i1 i2).1]; exact LO_nn
  · rw [(b3.1 i i1 i2).2.2.2.2]; exact LN_bd hn (fun l a b => (hL l a b).1)
  · have := b4 i i1 i2
    have := hr i i1 i2
    split at * <;> omega
theorem whyC_of (hw : 4 ≤ wd ∧ wd ≤ 40) (hh : 4 ≤ hg ∧ hg ≤ 40) (hc : 0 ≤ c ∧ c < 1600) (hB : BdI W wd hg n row s) : whyC s c p = whyP (LO W n) (LN W n) row wd hg c p := by
  obtain ⟨⟨b1, b2⟩, b3, b4⟩ := hB
  unfold whyC
  rw [b1, b2]
  exact why_congr hc hw hh (fun i i1 i2 => by rw [(b3.1 i i1 i2).1]) (b3.1 c hc.1 hc.2).2.2.2.2 (fun i i1 i2 => MkR_oth b4 i1 i2)
theorem rf_skip (h0 : 0 ≤ t) (h1 : t ≤ c) (h : ∀ x, t ≤ x → x < c → lbl W x < 0) : rf lo lg sn wd hg W r0 c = rf lo lg sn wd hg W r0 t := by
  have := int_ind_le (P := fun d => rf lo lg sn wd hg W r0 (t + d) = rf lo lg sn wd hg W r0 t) (N := c - t) (by rw [Int.add_zero]) (fun d h2 h3 ih => by
    rw [← Int.add_assoc, rf_s (by omega), if_pos (h _ (by omega) (by omega)), ih]) (c - t) (by omega) (Int.le_refl _)
  rw [show t + (c - t) = c by omega] at this
  exact this
theorem rk_skip (h0 : 0 ≤ t) (h1 : t ≤ c) (h : ∀ x, t ≤ x → x < c → lbl W x < 0) : rk W c = rk W t := by
  have := int_ind_le (P := fun d => rk W (t + d) = rk W t) (N := c - t) (by rw [Int.add_zero]) (fun d h2 h3 ih => by
    rw [← Int.add_assoc, rk_s0 (by omega) (h _ (by omega) (by omega)), ih]) (c - t) (by omega) (Int.le_refl _)
  rw [show t + (c - t) = c by omega] at this
  exact this
theorem rk_none (h0 : 0 ≤ t) (h : rk W c = rk W t) : ∀ x, t ≤ x → x < c → lbl W x < 0 := by
  intro x h1 h2
  by_cases hl : 0 ≤ lbl W x
  · have := rk_mono (W := W) h0 h1
    have := rk_lt (W := W) (c := x) (c' := c) (by omega) h2 hl
    omega
  · omega
theorem rk_sub (h : ∀ x, 0 ≤ x → x < c → 0 ≤ lbl W' x → 0 ≤ lbl W x) : rk W' c ≤ rk W c := sm_le fun x h1 h2 => by
  by_cases e : 0 ≤ lbl W' x
  · rw [b01_pos e, b01_pos (h x h1 h2 e)]; omega
  · rw [b01_neg e]; exact b01_le.1
theorem C_keepFitting (hw : 4 ≤ wd ∧ wd ≤ 40) (hh : 4 ≤ hg ∧ hg ≤ 40) (hn : 0 ≤ n ∧ n ≤ 8) (hL : ∀ l, 0 ≤ l → l < n → LG W l) (hlb : lblOk W) (hk : rk W 1600 ≤ 160) (hr : ∀ i, 0 ≤ i → i < 1600 → r0 i = -2) (hB : BdI W wd hg n r0 s) (hV : LbV s 8 W) : ∃ s', qLb_keepFitting (z + 8) (z + 300) (hi z TD g w s) = rI (J (rk W 1600 - rk (rf (LO W n) (LN W n) (SN W n) wd hg W r0 1600).1 1600)) (hi z TD g w s') ∧ (∀ o, o ≠ 8 → o ≠ 9 → o ≠ 10 → o ≠ 306 → s' o = s o) ∧ LbV s' 8 (rf (LO W n) (LN W n) (SN W n) wd hg W r0 1600).1 ∧ MkR (s' 306) (rf (LO W n) (LN W n) (SN W n) wd hg W r0 1600).2 := by
  have inv := fun k h1 h2 => rf_inv (lo := LO W n) (lg := LN W n) (sn := SN W n) (wd := wd) (hg := hg) (r0 := r0) hr hlb k h1 h2
  obtain ⟨v1, v2⟩ := LbV_at hV
  have hLB : ∀ l, 0 ≤ l → l < n → LB W l := fun l a b => (hL l a b).1
  have b160 := rk_bd (W := W) (c := 1600) (by omega)
  generalize hR : rf (LO W n) (LN W n) (SN W n) wd hg W r0 = R at *
  refine loopI (S := Int × CT) (fun N q => qLb_keepFitting_4 N (z + 8) (z + 300) (J (rk (R q.1).1 q.1)) (J (rk W q.1)) (hi z TD g w q.2)) (fun X => ∃ s', X = rI (J (rk W 1600 - rk (R 1600).1 1600)) (hi z TD g w s') ∧ (∀ o, o ≠ 8 → o ≠ 9 → o ≠ 10 → o ≠ 306 → s' o = s o) ∧ LbV s' 8 (R 1600).1 ∧ MkR (s' 306) (R 1600).2) (fun q => (0 ≤ q.1 ∧ q.1 ≤ 1600) ∧ (∀ o, o ≠ 9 → o ≠ 10 → o ≠ 306 → q.2 o = s o) ∧ (∀ x, 0 ≤ x → x < q.1 → 0 ≤ lbl (R q.1).1 x → q.2 9 (rk (R q.1).1 x) = x ∧ q.2 10 (rk (R q.1).1 x) = lbl (R q.1).1 x) ∧ (∀ x, q.1 ≤ x → x < 1600 → 0 ≤ lbl W x → q.2 9 (rk W x) = x ∧ q.2 10 (rk W x) = lbl W x) ∧ MkR (q.2 306) (R q.1).2) (fun q => 1600 - q.1) (by intro q hq; omega) (fun N q hq ih => ?_) (0, s) ⟨⟨by show (0 : Int) ≤ 0; omega, by show (0 : Int) ≤ 1600; omega⟩, fun o _ _ _ => rfl, fun x x1 x2 => by change x < 0 at x2; omega, fun x x1 x2 x3 => v2 x x1 x2 x3, by show MkR (s 306) (R 0).2; rw [← hR]; exact hB.2.2⟩ (by show (1600 : Int) - 0 < 20000; omega)
  obtain ⟨t, u⟩ := q
  obtain ⟨⟨ht, ht2⟩, hu1, hA, hB2, hM⟩ := hq
  change 0 ≤ t at ht
  change t ≤ 1600 at ht2
  change ∀ o, o ≠ 9 → o ≠ 10 → o ≠ 306 → u o = s o at hu1
  change ∀ x, 0 ≤ x → x < t → 0 ≤ lbl (R t).1 x → u 9 (rk (R t).1 x) = x ∧ u 10 (rk (R t).1 x) = lbl (R t).1 x at hA
  change ∀ x, t ≤ x → x < 1600 → 0 ≤ lbl W x → u 9 (rk W x) = x ∧ u 10 (rk W x) = lbl W x at hB2
  change MkR (u 306) (R t).2 at hM
  show ∃ s', qLb_keepFitting_4_b (qLb_keepFitting_4 N) (z + 8) (z + 300) (J (rk (R t).1 t)) (J (rk W t)) (hi z TD g w u) = _ ∧ _
  have iv := inv t ht ht2
  have hsub : rk (R t).1 t ≤ rk W t := rk_sub fun x x1 x2 x3 => by
    rcases iv.2.2.2 x x1 x2 with e | e <;> omega
  have r1 := rk_bd (W := (R t).1) ht
  have r2 := rk_mono (W := W) (c := t) (c' := 1600) ht ht2
  have u8 : u 8 0 = rk W 1600 := by rw [hu1 8 (by decide) (by decide) (by decide), v1]
  unfold qLb_keepFitting_4_b
  simp (disch := omega) only [↓gR_D0, ↓gR_D1, ↓gR_D2, ↓gR_D3, ↓gR_D4, ↓gR_D5, ↓gR_D6, ↓gR_D7, ↓gR_D8, ↓gR_D9, ↓gR_D10, ↓gI_D11, ↓pV_D11, ↓isO_D, ↓gI_T0, ↓pV_T0, ↓gR_T1, ↓isO_T, ↓rd_T2, ↓wr_T2, ↓gI_U0, ↓pV_U0, ↓gR_U1, ↓isO_U, ↓rd_U2, ↓wr_U2, ↓gI_Ps0, ↓pV_Ps0, ↓gI_Ps1, ↓pV_Ps1, ↓gI_Ps2, ↓pV_Ps2, ↓gI_Ps3, ↓pV_Ps3, ↓gI_Ps4, ↓pV_Ps4, ↓isO_Ps, ↓gI_N0, ↓pV_N0, ↓gI_N1, ↓pV_N1, ↓gI_N2, ↓pV_N2, ↓gI_N3, ↓pV_N3, ↓gR_N4, ↓gR_N5, ↓isO_N, ↓rd_NL, ↓gI_NB0, ↓pV_NB0, ↓gR_NB1, ↓gR_NB2, ↓isO_NB, ↓rd_NC, ↓wr_NC, ↓ln_NC, ↓rd_NP, ↓wr_NP, ↓ln_NP, ↓gI_V0, ↓pV_V0, ↓gI_V1, ↓pV_V1, ↓gI_V2, ↓pV_V2, ↓gI_V3, ↓pV_V3, ↓gR_V4, ↓gR_V5, ↓isO_V, ↓rd_VL, ↓gI_VB0, ↓pV_VB0, ↓gR_VB1, ↓gR_VB2, ↓isO_VB, ↓rd_VC, ↓wr_VC, ↓ln_VC, ↓rd_VP, ↓wr_VP, ↓ln_VP, ↓rd_SL, ↓rd_KP, ↓wr_KP, ↓gI_H0, ↓pV_H0, ↓gI_H1, ↓pV_H1, ↓gR_H2, ↓isO_H, ↓rd_HP, ↓gI_B0, ↓pV_B0, ↓gI_B1, ↓pV_B1, ↓gR_B2, ↓gR_B3, ↓gR_B4, ↓gR_B5, ↓gR_B6, ↓gR_B7, ↓gR_B8, ↓isO_B, ↓rd_B301, ↓wr_B301, ↓ln_B301, ↓rd_B302, ↓wr_B302, ↓ln_B302, ↓rd_B303, ↓wr_B303, ↓ln_B303, ↓rd_B304, ↓wr_B304, ↓ln_B304, ↓rd_B305, ↓wr_B305, ↓ln_B305, ↓rd_B306, ↓wr_B306, ↓ln_B306, ↓rd_B307, ↓wr_B307, ↓ln_B307, ↓gR_Tv, ↓isO_Tv, ↓rd_Tv9, ↓wr_Tv9, ↓ln_Tv9, pV_D11, pV_T0, rd_T2, wr_T2, pV_U0, rd_U2, wr_U2, pV_Ps0, pV_Ps1, pV_Ps2, pV_Ps3, pV_Ps4, pV_N0, pV_N1, pV_N2, pV_N3, rd_NL, pV_NB0, rd_NC, wr_NC, rd_NP, wr_NP, pV_V0, pV_V1, pV_V2, pV_V3, rd_VL, pV_VB0, rd_VC, wr_VC, rd_VP, wr_VP, rd_SL, rd_KP, wr_KP, pV_H0, pV_H1, rd_HP, pV_B0, pV_B1, rd_B301, wr_B301, rd_B302, wr_B302, rd_B303, wr_B303, rd_B304, wr_B304, rd_B305, wr_B305, rd_B306, wr_B306, rd_B307, wr_B307, rd_Tv9, wr_Tv9, J_l, J_neg, J_add, J_sub, J_mul, J_lt, J_le, J_eq, J_div2, J_rem2, J_shl1, J_orp, J_or, J_and, J_shr, J_ushr, J_max, J_min, J_abs, J_b0, ↓b0_ite, ↓b0_ite2, b0_ite, bI_r, bV_r, b01_ite, ite_true, ite_false, rZ_b, K_l, J_long, M_in, u8]
  by_cases hc : rk W t < rk W 1600
  · rw [if_pos hc]
    obtain ⟨c, c1, c2, c3, c4⟩ := rk_surj (W := W) 1600 (by omega) (rk W t) (by omega) hc
    have htc : t ≤ c := by
      by_cases e : t ≤ c
      · exact e
      · have := rk_lt (W := W) (c := c) (c' := t) c1 (by omega) c3
        omega
    have hnone := rk_none (W := W) ht c4
    have eR : R c = R t := by rw [← hR]; exact rf_skip ht htc hnone
    have eRs := rf_s (lo := LO W n) (lg := LN W n) (sn := SN W n) (wd := wd) (hg := hg) (W := W) (r0 := r0) c1
    rw [if_neg (by omega), hR, eR] at eRs
    have erk : rk (R t).1 c = rk (R t).1 t := rk_skip ht htc fun x x1 x2 => by
      have : lbl (R t).1 x = lbl W x := iv.1 _ (by omega)
      rw [this]
      exact hnone x x1 x2
    have ivc := inv c c1 (by omega)
    rw [eR] at ivc
    have ec : lbl (R t).1 c = lbl W c := ivc.1 _ (by omega)
    have xx := hB2 c htc c2 c3
    rw [c4] at xx
    have hp := hlb c c1 c2
    have f303 : u 303 c = SN W n c := by rw [hu1 303 (by decide) (by decide) (by decide)]; exact (hB.2.1.1 c c1 c2).2.2.1
    have f305 : u 305 c = LN W n c := by rw [hu1 305 (by decide) (by decide) (by decide)]; exact (hB.2.1.1 c c1 c2).2.2.2.2
    have b3 := SN_bd (W := W) (c := c) hn hLB
    have hBu : BdI W wd hg n (R t).2 u := by
      refine ⟨by rw [hu1 300 (by decide) (by decide) (by decide)]; exact hB.1, ⟨fun x x1 x2 => ?_, ?_⟩, hM⟩
      · rw [hu1 301 (by decide) (by decide) (by decide), hu1 302 (by decide) (by decide) (by decide), hu1 303 (by decide) (by decide) (by decide), hu1 304 (by decide) (by decide) (by decide), hu1 305 (by decide) (by decide) (by decide)]
        exact hB.2.1.1 x x1 x2
      · rw [hu1 307 (by decide) (by decide) (by decide)]
        exact hB.2.1.2
    have hRs : RsI u := RsI_of hw hh hn.1 hL hBu (fun i i1 i2 => (Own_bd iv.2.2.1 ht2 i i1 i2).2)
    have ew := whyC_of (c := c) (p := lbl W c) hw hh ⟨c1, c2⟩ hBu
    have wv := why_val (lo := LO W n) (lg := LN W n) (lb := (R t).2) (wd := wd) (hg := hg) (c := c) (p := lbl W c)
    simp (disch := omega) only [↓gR_D0, ↓gR_D1, ↓gR_D2, ↓gR_D3, ↓gR_D4, ↓gR_D5, ↓gR_D6, ↓gR_D7, ↓gR_D8, ↓gR_D9, ↓gR_D10, ↓gI_D11, ↓pV_D11, ↓isO_D, ↓gI_T0, ↓pV_T0, ↓gR_T1, ↓isO_T, ↓rd_T2, ↓wr_T2, ↓gI_U0, ↓pV_U0, ↓gR_U1, ↓isO_U, ↓rd_U2, ↓wr_U2, ↓gI_Ps0, ↓pV_Ps0, ↓gI_Ps1, ↓pV_Ps1, ↓gI_Ps2, ↓pV_Ps2, ↓gI_Ps3, ↓pV_Ps3, ↓gI_Ps4, ↓pV_Ps4, ↓isO_Ps, ↓gI_N0, ↓pV_N0, ↓gI_N1, ↓pV_N1, ↓gI_N2, ↓pV_N2, ↓gI_N3, ↓pV_N3, ↓gR_N4, ↓gR_N5, ↓isO_N, ↓rd_NL, ↓gI_NB0, ↓pV_NB0, ↓gR_NB1, ↓gR_NB2, ↓isO_NB, ↓rd_NC, ↓wr_NC, ↓ln_NC, ↓rd_NP, ↓wr_NP, ↓ln_NP, ↓gI_V0, ↓pV_V0, ↓gI_V1, ↓pV_V1, ↓gI_V2, ↓pV_V2, ↓gI_V3, ↓pV_V3, ↓gR_V4, ↓gR_V5, ↓isO_V, ↓rd_VL, ↓gI_VB0, ↓pV_VB0, ↓gR_VB1, ↓gR_VB2, ↓isO_VB, ↓rd_VC, ↓wr_VC, ↓ln_VC, ↓rd_VP, ↓wr_VP, ↓ln_VP, ↓rd_SL, ↓rd_KP, ↓wr_KP, ↓gI_H0, ↓pV_H0, ↓gI_H1, ↓pV_H1, ↓gR_H2, ↓isO_H, ↓rd_HP, ↓gI_B0, ↓pV_B0, ↓gI_B1, ↓pV_B1, ↓gR_B2, ↓gR_B3, ↓gR_B4, ↓gR_B5, ↓gR_B6, ↓gR_B7, ↓gR_B8, ↓isO_B, ↓rd_B301, ↓wr_B301, ↓ln_B301, ↓rd_B302, ↓wr_B302, ↓ln_B302, ↓rd_B303, ↓wr_B303, ↓ln_B303, ↓rd_B304, ↓wr_B304, ↓ln_B304, ↓rd_B305, ↓wr_B305, ↓ln_B305, ↓rd_B306, ↓wr_B306, ↓ln_B306, ↓rd_B307, ↓wr_B307, ↓ln_B307, ↓gR_Tv, ↓isO_Tv, ↓rd_Tv9, ↓wr_Tv9, ↓ln_Tv9, pV_D11, pV_T0, rd_T2, wr_T2, pV_U0, rd_U2, wr_U2, pV_Ps0, pV_Ps1, pV_Ps2, pV_Ps3, pV_Ps4, pV_N0, pV_N1, pV_N2, pV_N3, rd_NL, pV_NB0, rd_NC, wr_NC, rd_NP, wr_NP, pV_V0, pV_V1, pV_V2, pV_V3, rd_VL, pV_VB0, rd_VC, wr_VC, rd_VP, wr_VP, rd_SL, rd_KP, wr_KP, pV_H0, pV_H1, rd_HP, pV_B0, pV_B1, rd_B301, wr_B301, rd_B302, wr_B302, rd_B303, wr_B303, rd_B304, wr_B304, rd_B305, wr_B305, rd_B306, wr_B306, rd_B307, wr_B307, rd_Tv9, wr_Tv9, J_l, J_neg, J_add, J_sub, J_mul, J_lt, J_le, J_eq, J_div2, J_rem2, J_shl1, J_orp, J_or, J_and, J_shr, J_ushr, J_max, J_min, J_abs, J_b0, ↓b0_ite, ↓b0_ite2, b0_ite, bI_r, bV_r, b01_ite, ite_true, ite_false, rZ_b, K_l, J_long, M_in, xx.1, xx.2, f303]
    have hlost : ¬(0 < SN W n c ∧ whyP (LO W n) (LN W n) (R t).2 wd hg c (lbl W c) = 0) → ∃ s', qLb_keepFitting_4 N (z + 8) (z + 300) (J (rk (R t).1 t)) (J (rk W t + 1)) (hi z TD g w u) = rI (J (rk W 1600 - rk (R 1600).1 1600)) (hi z TD g w s') ∧ (∀ o, o ≠ 8 → o ≠ 9 → o ≠ 10 → o ≠ 306 → s' o = s o) ∧ LbV s' 8 (R 1600).1 ∧ MkR (s' 306) (R 1600).2 := by
      intro hno
      rw [if_neg hno] at eRs
      have lr : ∀ x, 0 ≤ x → x < c + 1 → 0 ≤ lbl (ru (R t).1 (184 + c) (-2)) x → x < c ∧ lbl (ru (R t).1 (184 + c) (-2)) x = lbl (R t).1 x := fun x x1 x2 x3 => by
        rw [lbl_ru c1 x1] at x3 ⊢
        by_cases e : x = c
        · rw [if_pos e] at x3; omega
        · rw [if_neg e]
          exact ⟨by omega, rfl⟩
      have er1 : rk (ru (R t).1 (184 + c) (-2)) (c + 1) = rk (R t).1 t := by
        have := lbl_ru (W := (R t).1) (v := -2) c1 c1
        rw [if_pos rfl] at this
        rw [rk_s0 c1 (by omega), rk_ru c1, erk]
      have := ih (c + 1, u) ⟨⟨by show 0 ≤ c + 1; omega, by show c + 1 ≤ 1600; omega⟩, hu1, fun x x1 x2 x3 => by
        show u 9 (rk (R (c + 1)).1 x) = x ∧ u 10 (rk (R (c + 1)).1 x) = lbl (R (c + 1)).1 x
        change x < c + 1 at x2
        change 0 ≤ lbl (R (c + 1)).1 x at x3
        rw [eRs] at x3 ⊢
        have y := lr x x1 x2 x3
        change 0 ≤ lbl (ru (R t).1 (184 + c) (-2)) x at x3
        show u 9 (rk (ru (R t).1 (184 + c) (-2)) x) = x ∧ u 10 (rk (ru (R t).1 (184 + c) (-2)) x) = lbl (ru (R t).1 (184 + c) (-2)) x
        have ek : rk (ru (R t).1 (184 + c) (-2)) x = rk (R t).1 x := cnt_congr fun i i1 i2 => by rw [lbl_ru c1 i1, if_neg (by omega)]
        rw [ek, y.2]
        rw [y.2] at x3
        have hxt : x < t := by
          by_cases e : x < t
          · exact e
          · have : lbl (R t).1 x = lbl W x := iv.1 _ (by omega)
            have := hnone x (by omega) y.1
            omega
        exact hA x x1 hxt x3, fun x x1 x2 x3 => hB2 x (by change c + 1 ≤ x at x1; omega) x2 x3, by
        show MkR (u 306) (R (c + 1)).2
        rw [eRs]
        exact hM⟩ (by show 1600 - (c + 1) < 1600 - t; omega)
      simp only [eRs] at this
      rw [er1, rk_s1 c1 c3, c4] at this
      exact this
    by_cases hpl : 0 < SN W n c
    · rw [if_pos hpl]
      have hLc := LN_pos (c := c) hLB hn.1 hpl
      have x1 := C_reason (z := z) (g := g) (w := w) (s := u) (c := c) (p := lbl W c) ⟨c1, c2⟩ (by omega) hRs (by rw [f305]; exact hLc.1)
      rw [ew] at x1
      simp (disch := omega) only [↓gR_D0, ↓gR_D1, ↓gR_D2, ↓gR_D3, ↓gR_D4, ↓gR_D5, ↓gR_D6, ↓gR_D7, ↓gR_D8, ↓gR_D9, ↓gR_D10, ↓gI_D11, ↓pV_D11, ↓isO_D, ↓gI_T0, ↓pV_T0, ↓gR_T1, ↓isO_T, ↓rd_T2, ↓wr_T2, ↓gI_U0, ↓pV_U0, ↓gR_U1, ↓isO_U, ↓rd_U2, ↓wr_U2, ↓gI_Ps0, ↓pV_Ps0, ↓gI_Ps1, ↓pV_Ps1, ↓gI_Ps2, ↓pV_Ps2, ↓gI_Ps3, ↓pV_Ps3, ↓gI_Ps4, ↓pV_Ps4, ↓isO_Ps, ↓gI_N0, ↓pV_N0, ↓gI_N1, ↓pV_N1, ↓gI_N2, ↓pV_N2, ↓gI_N3, ↓pV_N3, ↓gR_N4, ↓gR_N5, ↓isO_N, ↓rd_NL, ↓gI_NB0, ↓pV_NB0, ↓gR_NB1, ↓gR_NB2, ↓isO_NB, ↓rd_NC, ↓wr_NC, ↓ln_NC, ↓rd_NP, ↓wr_NP, ↓ln_NP, ↓gI_V0, ↓pV_V0, ↓gI_V1, ↓pV_V1, ↓gI_V2, ↓pV_V2, ↓gI_V3, ↓pV_V3, ↓gR_V4, ↓gR_V5, ↓isO_V, ↓rd_VL, ↓gI_VB0, ↓pV_VB0, ↓gR_VB1, ↓gR_VB2, ↓isO_VB, ↓rd_VC, ↓wr_VC, ↓ln_VC, ↓rd_VP, ↓wr_VP, ↓ln_VP, ↓rd_SL, ↓rd_KP, ↓wr_KP, ↓gI_H0, ↓pV_H0, ↓gI_H1, ↓pV_H1, ↓gR_H2, ↓isO_H, ↓rd_HP, ↓gI_B0, ↓pV_B0, ↓gI_B1, ↓pV_B1, ↓gR_B2, ↓gR_B3, ↓gR_B4, ↓gR_B5, ↓gR_B6, ↓gR_B7, ↓gR_B8, ↓isO_B, ↓rd_B301, ↓wr_B301, ↓ln_B301, ↓rd_B302, ↓wr_B302, ↓ln_B302, ↓rd_B303, ↓wr_B303, ↓ln_B303, ↓rd_B304, ↓wr_B304, ↓ln_B304, ↓rd_B305, ↓wr_B305, ↓ln_B305, ↓rd_B306, ↓wr_B306, ↓ln_B306, ↓rd_B307, ↓wr_B307, ↓ln_B307, ↓gR_Tv, ↓isO_Tv, ↓rd_Tv9, ↓wr_Tv9, ↓ln_Tv9, pV_D11, pV_T0, rd_T2, wr_T2, pV_U0, rd_U2, wr_U2, pV_Ps0, pV_Ps1, pV_Ps2, pV_Ps3, pV_Ps4, pV_N0, pV_N1, pV_N2, pV_N3, rd_NL, pV_NB0, rd_NC, wr_NC, rd_NP, wr_NP, pV_V0, pV_V1, pV_V2, pV_V3, rd_VL, pV_VB0, rd_VC, wr_VC, rd_VP, wr_VP, rd_SL, rd_KP, wr_KP, pV_H0, pV_H1, rd_HP, pV_B0, pV_B1, rd_B301, wr_B301, rd_B302, wr_B302, rd_B303, wr_B303, rd_B304, wr_B304, rd_B305, wr_B305, rd_B306, wr_B306, rd_B307, wr_B307, rd_Tv9, wr_Tv9, J_l, J_neg, J_add, J_sub, J_mul, J_lt, J_le, J_eq, J_div2, J_rem2, J_shl1, J_orp, J_or, J_and, J_shr, J_ushr, J_max, J_min, J_abs, J_b0, ↓b0_ite, ↓b0_ite2, b0_ite, bI_r, bV_r, b01_ite, ite_true, ite_false, rZ_b, K_l, J_long, M_in, x1]
      by_cases h0 : whyP (LO W n) (LN W n) (R t).2 wd hg c (lbl W c) = 0
      · rw [if_pos h0]
        rw [if_pos ⟨hpl, h0⟩] at eRs
        have hfr := why_free h0
        have x2 := C_paint (z := z) (g := g) (w := w) (s := u) (c := c) (p := lbl W c) (v := c + 1) ⟨c1, c2⟩ (by omega) hRs (by rw [f305]; exact hLc.1) (by rw [f305, hBu.1.1, hBu.1.2]; exact hfr.1)
        rw [f305] at x2
        simp (disch := omega) only [↓gR_D0, ↓gR_D1, ↓gR_D2, ↓gR_D3, ↓gR_D4, ↓gR_D5, ↓gR_D6, ↓gR_D7, ↓gR_D8, ↓gR_D9, ↓gR_D10, ↓gI_D11, ↓pV_D11, ↓isO_D, ↓gI_T0, ↓pV_T0, ↓gR_T1, ↓isO_T, ↓rd_T2, ↓wr_T2, ↓gI_U0, ↓pV_U0, ↓gR_U1, ↓isO_U, ↓rd_U2, ↓wr_U2, ↓gI_Ps0, ↓pV_Ps0, ↓gI_Ps1, ↓pV_Ps1, ↓gI_Ps2, ↓pV_Ps2, ↓gI_Ps3, ↓pV_Ps3, ↓gI_Ps4, ↓pV_Ps4, ↓isO_Ps, ↓gI_N0, ↓pV_N0, ↓gI_N1, ↓pV_N1, ↓gI_N2, ↓pV_N2, ↓gI_N3, ↓pV_N3, ↓gR_N4, ↓gR_N5, ↓isO_N, ↓rd_NL, ↓gI_NB0, ↓pV_NB0, ↓gR_NB1, ↓gR_NB2, ↓isO_NB, ↓rd_NC, ↓wr_NC, ↓ln_NC, ↓rd_NP, ↓wr_NP, ↓ln_NP, ↓gI_V0, ↓pV_V0, ↓gI_V1, ↓pV_V1, ↓gI_V2, ↓pV_V2, ↓gI_V3, ↓pV_V3, ↓gR_V4, ↓gR_V5, ↓isO_V, ↓rd_VL, ↓gI_VB0, ↓pV_VB0, ↓gR_VB1, ↓gR_VB2, ↓isO_VB, ↓rd_VC, ↓wr_VC, ↓ln_VC, ↓rd_VP, ↓wr_VP, ↓ln_VP, ↓rd_SL, ↓rd_KP, ↓wr_KP, ↓gI_H0, ↓pV_H0, ↓gI_H1, ↓pV_H1, ↓gR_H2, ↓isO_H, ↓rd_HP, ↓gI_B0, ↓pV_B0, ↓gI_B1, ↓pV_B1, ↓gR_B2, ↓gR_B3, ↓gR_B4, ↓gR_B5, ↓gR_B6, ↓gR_B7, ↓gR_B8, ↓isO_B, ↓rd_B301, ↓wr_B301, ↓ln_B301, ↓rd_B302, ↓wr_B302, ↓ln_B302, ↓rd_B303, ↓wr_B303, ↓ln_B303, ↓rd_B304, ↓wr_B304, ↓ln_B304, ↓rd_B305, ↓wr_B305, ↓ln_B305, ↓rd_B306, ↓wr_B306, ↓ln_B306, ↓rd_B307, ↓wr_B307, ↓ln_B307, ↓gR_Tv, ↓isO_Tv, ↓rd_Tv9, ↓wr_Tv9, ↓ln_Tv9, pV_D11, pV_T0, rd_T2, wr_T2, pV_U0, rd_U2, wr_U2, pV_Ps0, pV_Ps1, pV_Ps2, pV_Ps3, pV_Ps4, pV_N0, pV_N1, pV_N2, pV_N3, rd_NL, pV_NB0, rd_NC, wr_NC, rd_NP, wr_NP, pV_V0, pV_V1, pV_V2, pV_V3, rd_VL, pV_VB0, rd_VC, wr_VC, rd_VP, wr_VP, rd_SL, rd_KP, wr_KP, pV_H0, pV_H1, rd_HP, pV_B0, pV_B1, rd_B301, wr_B301, rd_B302, wr_B302, rd_B303, wr_B303, rd_B304, wr_B304, rd_B305, wr_B305, rd_B306, wr_B306, rd_B307, wr_B307, rd_Tv9, wr_Tv9, J_l, J_neg, J_add, J_sub, J_mul, J_lt, J_le, J_eq, J_div2, J_rem2, J_shl1, J_orp, J_or, J_and, J_shr, J_ushr, J_max, J_min, J_abs, J_b0, ↓b0_ite, ↓b0_ite2, b0_ite, bI_r, bV_r, b01_ite, ite_true, ite_false, rZ_b, K_l, J_long, M_in, rs_same, rs_ne, rs_rs, ru_same, ru_ne, ne_eq, x2]
        have er1 : rk (R t).1 (c + 1) = rk (R t).1 t + 1 := by rw [rk_s1 c1 (by omega), erk]
        generalize hU : rs (rs (rs u 306 (pnt (u 306) (fr c (lbl W c) (LN W n c)) (LN W n c) (c + 1))) 9 (ru (u 9) (rk (R t).1 t) c)) 10 (ru (u 10) (rk (R t).1 t) (lbl W c)) = u'
        have g9 : u' 9 = ru (u 9) (rk (R t).1 t) c := by rw [← hU, rs_ne (by decide), rs_same]
        have g10 : u' 10 = ru (u 10) (rk (R t).1 t) (lbl W c) := by rw [← hU, rs_same]
        have g306 : u' 306 = pnt (u 306) (fr c (lbl W c) (LN W n c)) (LN W n c) (c + 1) := by rw [← hU, rs_ne (by decide), rs_ne (by decide), rs_same]
        have := ih (c + 1, u') ⟨⟨by show 0 ≤ c + 1; omega, by show c + 1 ≤ 1600; omega⟩, fun o o1 o2 o3 => by
          show u' o = s o
          rw [← hU, rs_ne o2, rs_ne o1, rs_ne o3, hu1 o o1 o2 o3], fun x x1 x2 x3 => by
          show u' 9 (rk (R (c + 1)).1 x) = x ∧ u' 10 (rk (R (c + 1)).1 x) = lbl (R (c + 1)).1 x
          change x < c + 1 at x2
          change 0 ≤ lbl (R (c + 1)).1 x at x3
          rw [eRs] at x3 ⊢
          change 0 ≤ lbl (R t).1 x at x3
          show u' 9 (rk (R t).1 x) = x ∧ u' 10 (rk (R t).1 x) = lbl (R t).1 x
          rw [g9, g10]
          by_cases e : x = c
          · rw [e, erk, ru_same, ru_same, ec]
            exact ⟨rfl, rfl⟩
          · have hxt : x < t := by
              by_cases e : x < t
              · exact e
              · have : lbl (R t).1 x = lbl W x := iv.1 _ (by omega)
                have := hnone x (by omega) (by omega)
                omega
            have := rk_lt (W := (R t).1) (c := x) (c' := t) x1 hxt x3
            rw [ru_ne (by omega), ru_ne (by omega)]
            exact hA x x1 hxt x3, fun x x1 x2 x3 => by
          change c + 1 ≤ x at x1
          show u' 9 (rk W x) = x ∧ u' 10 (rk W x) = lbl W x
          have := rk_lt (W := W) (c := c) (c' := x) c1 (by omega) c3
          rw [g9, g10, ru_ne (by omega), ru_ne (by omega)]
          exact hB2 x (by omega) x2 x3, by
          show MkR (u' 306) (R (c + 1)).2
          rw [eRs, g306]
          exact MkR_pnt hM c1⟩ (by show 1600 - (c + 1) < 1600 - t; omega)
        simp only [eRs] at this
        rw [er1, rk_s1 c1 c3, c4] at this
        exact this
      · rw [if_neg h0]
        exact hlost (fun hx => h0 hx.2)
    · rw [if_neg hpl]
      exact hlost (fun hx => hpl hx.1)
  · rw [if_neg hc]
    have hnone := rk_none (W := W) (c := 1600) ht (by omega)
    have eR : R 1600 = R t := by rw [← hR]; exact rf_skip ht ht2 hnone
    have erk : rk (R t).1 1600 = rk (R t).1 t := rk_skip ht ht2 fun x x1 x2 => by
      have : lbl (R t).1 x = lbl W x := iv.1 _ (by omega)
      rw [this]
      exact hnone x x1 x2
    unfold qLb_keepFitting_86
    simp (disch := omega) only [↓gR_D0, ↓gR_D1, ↓gR_D2, ↓gR_D3, ↓gR_D4, ↓gR_D5, ↓gR_D6, ↓gR_D7, ↓gR_D8, ↓gR_D9, ↓gR_D10, ↓gI_D11, ↓pV_D11, ↓isO_D, ↓gI_T0, ↓pV_T0, ↓gR_T1, ↓isO_T, ↓rd_T2, ↓wr_T2, ↓gI_U0, ↓pV_U0, ↓gR_U1, ↓isO_U, ↓rd_U2, ↓wr_U2, ↓gI_Ps0, ↓pV_Ps0, ↓gI_Ps1, ↓pV_Ps1, ↓gI_Ps2, ↓pV_Ps2, ↓gI_Ps3, ↓pV_Ps3, ↓gI_Ps4, ↓pV_Ps4, ↓isO_Ps, ↓gI_N0, ↓pV_N0, ↓gI_N1, ↓pV_N1, ↓gI_N2, ↓pV_N2, ↓gI_N3, ↓pV_N3, ↓gR_N4, ↓gR_N5, ↓isO_N, ↓rd_NL, ↓gI_NB0, ↓pV_NB0, ↓gR_NB1, ↓gR_NB2, ↓isO_NB, ↓rd_NC, ↓wr_NC, ↓ln_NC, ↓rd_NP, ↓wr_NP, ↓ln_NP, ↓gI_V0, ↓pV_V0, ↓gI_V1, ↓pV_V1, ↓gI_V2, ↓pV_V2, ↓gI_V3, ↓pV_V3, ↓gR_V4, ↓gR_V5, ↓isO_V, ↓rd_VL, ↓gI_VB0, ↓pV_VB0, ↓gR_VB1, ↓gR_VB2, ↓isO_VB, ↓rd_VC, ↓wr_VC, ↓ln_VC, ↓rd_VP, ↓wr_VP, ↓ln_VP, ↓rd_SL, ↓rd_KP, ↓wr_KP, ↓gI_H0, ↓pV_H0, ↓gI_H1, ↓pV_H1, ↓gR_H2, ↓isO_H, ↓rd_HP, ↓gI_B0, ↓pV_B0, ↓gI_B1, ↓pV_B1, ↓gR_B2, ↓gR_B3, ↓gR_B4, ↓gR_B5, ↓gR_B6, ↓gR_B7, ↓gR_B8, ↓isO_B, ↓rd_B301, ↓wr_B301, ↓ln_B301, ↓rd_B302, ↓wr_B302, ↓ln_B302, ↓rd_B303, ↓wr_B303, ↓ln_B303, ↓rd_B304, ↓wr_B304, ↓ln_B304, ↓rd_B305, ↓wr_B305, ↓ln_B305, ↓rd_B306, ↓wr_B306, ↓ln_B306, ↓rd_B307, ↓wr_B307, ↓ln_B307, ↓gR_Tv, ↓isO_Tv, ↓rd_Tv9, ↓wr_Tv9, ↓ln_Tv9, pV_D11, pV_T0, rd_T2, wr_T2, pV_U0, rd_U2, wr_U2, pV_Ps0, pV_Ps1, pV_Ps2, pV_Ps3, pV_Ps4, pV_N0, pV_N1, pV_N2, pV_N3, rd_NL, pV_NB0, rd_NC, wr_NC, rd_NP, wr_NP, pV_V0, pV_V1, pV_V2, pV_V3, rd_VL, pV_VB0, rd_VC, wr_VC, rd_VP, wr_VP, rd_SL, rd_KP, wr_KP, pV_H0, pV_H1, rd_HP, pV_B0, pV_B1, rd_B301, wr_B301, rd_B302, wr_B302, rd_B303, wr_B303, rd_B304, wr_B304, rd_B305, wr_B305, rd_B306, wr_B306, rd_B307, wr_B307, rd_Tv9, wr_Tv9, J_l, J_neg, J_add, J_sub, J_mul, J_lt, J_le, J_eq, J_div2, J_rem2, J_shl1, J_orp, J_or, J_and, J_shr, J_ushr, J_max, J_min, J_abs, J_b0, ↓b0_ite, ↓b0_ite2, b0_ite, bI_r, bV_r, b01_ite, ite_true, ite_false, rZ_b, K_l, J_long, M_in, rs_same, rs_ne, rs_rs, ru_same, ru_ne, ne_eq, u8]
    rw [eR, erk]
    refine ⟨_, rfl, fun o o1 o2 o3 o4 => ?_, ⟨?_, fun x x1 x2 x3 => ?_⟩, ?_⟩
    · rw [rs_ne o1, hu1 o o2 o3 o4]
    · rw [rs_same, ru_same, erk]
    · show rs u 8 (ru (u 8) 0 (rk (R t).1 t)) 9 (rk (R t).1 x) = x ∧ rs u 8 (ru (u 8) 0 (rk (R t).1 t)) 10 (rk (R t).1 x) = lbl (R t).1 x
      rw [rs_ne (by decide), rs_ne (by decide)]
      have hxt : x < t := by
        by_cases e : x < t
        · exact e
        · have : lbl (R t).1 x = lbl W x := iv.1 _ (by omega)
          have := hnone x (by omega) (by omega)
          omega
      exact hA x x1 hxt x3
    · rw [rs_ne (by decide)]
      exact hM
end CK
