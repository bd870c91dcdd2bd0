/-! what holds of both sides between calls -/
section IV
variable {z y : Nat} {g : XH} {w : Int64} {s s' s0 m m' m0 : CT} {W W' row nm nm' : Int → Int} {wd hg mt c i j l n p v t k : Int} {a b q : Nat}
def PlV (s : CT) (p : Nat) (wd hg mt n : Int) (nm W : Int → Int) : Prop := s p 0 = wd ∧ s p 1 = hg ∧ s p 2 = mt ∧ s p 3 = n ∧ (∀ l, 0 ≤ l → l < n → LV s (p + 5 + 3 * l.toNat) W l ∧ s (p + 5 + 3 * l.toNat) 0 = nm l) ∧ LbV s (p + 2) W
def sameW (W W' : Int → Int) : Prop := ∀ j, 0 ≤ j → j < 1784 → W j = W' j
theorem sameW.symm (h : sameW W W') : sameW W' W := fun j h1 h2 => (h j h1 h2).symm
theorem sameW.toL (h : sameW W W') : sameL W W' := fun j h1 h2 => h j h1 (by omega)
theorem sameW.lb (h : sameW W W') (h1 : 0 ≤ c) (h2 : c < 1600) : lbl W c = lbl W' c := h _ (by omega) (by omega)
theorem rk_c (h : sameW W W') (h2 : c ≤ 1600) : rk W c = rk W' c := cnt_congr fun i i1 i2 => by rw [h.lb i1 (by omega)]
theorem GN_c {lo lg sn : Int → Int} (h : sameW W W') (hG : GN lo lg sn wd hg W 1600) : GN lo lg sn wd hg W' 1600 := fun c c1 c2 => by
  rw [← h.lb c1 c2]
  exact hG c c1 c2
theorem Own_c {lg : Int → Int} (h : sameW W W') (hO : Own lg W row 1600) : Own lg W' row 1600 := fun i i1 i2 => by
  have x := hO i i1 i2
  refine ⟨?_, fun c c1 c2 c3 c4 => ?_⟩
  · rcases x.1 with e | ⟨e1, e2, e3, e4⟩
    · exact Or.inl e
    · rw [h.lb e1 e2] at e3 e4
      exact Or.inr ⟨e1, e2, e3, e4⟩
  · rw [← h.lb c1 c2] at c3 c4
    exact x.2 c c1 c2 c3 c4
/-- lines of the same numbers make the same board -/
theorem boardf_c (h : sameL W W') (hn : n ≤ 8) (hb : ∀ l, 0 ≤ l → l < n → LB W l) : LO W n = LO W' n ∧ LN W n = LN W' n ∧ SN W n = SN W' n ∧ SM W n = SM W' n ∧ SP W n = SP W' n ∧ LVs W n = LVs W' n := ⟨funext fun _ => LO_c h hn hb, funext fun _ => LN_c h hn hb, funext fun _ => SN_c h hn hb, funext fun _ => SM_c h hn hb, funext fun _ => SP_c h hn hb, funext fun _ => LVs_c h hn hb⟩
theorem GoodW_c (h : sameW W W') (hn : n ≤ 8) (hG : GoodW wd hg n W) : GoodW wd hg n W' := by
  obtain ⟨h1, h2, row, h3⟩ := hG
  have e := boardf_c h.toL hn (fun l a b => (h1 l a b).1)
  refine ⟨fun l a b => LG_c h.toL (by omega) (h1 l a b), ?_, row, ?_⟩
  · rw [← e.1, ← e.2.1, ← e.2.2.1]
    exact GN_c h h2
  · rw [← e.2.1]
    exact Own_c h h3
theorem LV_c (h : sameL W W') (hl : 0 ≤ l ∧ l < 8) (hb : cN W l ≤ 10) (hv : LV s a W l) : LV s a W' l := by
  unfold LV at *
  rw [← cN_c h hl, ← cT_c h hl, ← cZ_c h hl]
  refine ⟨hv.1, hv.2.1, hv.2.2.1, fun p p1 p2 => ?_⟩
  rw [← cX_c h hl (by omega), ← cY_c h hl (by omega)]
  exact hv.2.2.2 p p1 p2
theorem LbV_c (h : sameW W W') (hv : LbV s q W) : LbV s q W' := by
  unfold LbV at *
  rw [← rk_c h (by omega)]
  refine ⟨hv.1, fun c c1 c2 c3 => ?_⟩
  rw [← h.lb c1 c2] at c3 ⊢
  rw [← rk_c h (by omega)]
  exact hv.2 c c1 c2 c3
theorem PlV_c (h : sameW W W') (hn : n ≤ 8) (hb : ∀ l, 0 ≤ l → l < n → LB W l) (hv : PlV s p.toNat wd hg mt n nm W) : PlV s p.toNat wd hg mt n nm W' := by
  obtain ⟨h1, h2, h3, h4, h5, h6⟩ := hv
  exact ⟨h1, h2, h3, h4, fun l l1 l2 => ⟨LV_c h.toL (by omega) (hb l l1 l2).1.2 (h5 l l1 l2).1, (h5 l l1 l2).2⟩, LbV_c h h6⟩
theorem PlV_cn (h : sameW W W') (hn : n ≤ 8) (hb : ∀ l, 0 ≤ l → l < n → LB W l) (hv : PlV s q wd hg mt n nm W) : PlV s q wd hg mt n nm W' := by
  obtain ⟨h1, h2, h3, h4, h5, h6⟩ := hv
  exact ⟨h1, h2, h3, h4, fun l l1 l2 => ⟨LV_c h.toL (by omega) (hb l l1 l2).1.2 (h5 l l1 l2).1, (h5 l l1 l2).2⟩, LbV_c h h6⟩
theorem PlV_fr (hn : n ≤ 8) (hf : ∀ o, a ≤ o → o ≤ a + 28 → s' o = s o) (hv : PlV s a wd hg mt n nm W) : PlV s' a wd hg mt n nm W := by
  obtain ⟨h1, h2, h3, h4, h5, h6⟩ := hv
  rw [← hf a (by omega) (by omega)] at h1 h2 h3 h4
  refine ⟨h1, h2, h3, h4, fun l l1 l2 => ?_, ?_⟩
  · have x := h5 l l1 l2
    unfold LV at *
    rw [hf _ (by omega) (by omega), hf _ (by omega) (by omega), hf _ (by omega) (by omega)]
    exact x
  · unfold LbV at *
    rw [hf _ (by omega) (by omega), hf _ (by omega) (by omega), hf _ (by omega) (by omega)]
    exact h6
def slotW (m : CT) (j : Int) : Int → Int := fun k => m 6 (1784 * j + k)
def undoW (m : CT) (i : Int) : Int → Int := fun k => m 5 (1784 * i + k)
/-- a packed name of one to six letters -/
def lett (v i : Int) : Int := v / pw (25 - 5 * i) % 32
def NmOk (v : Int) : Prop := (0 < v ∧ v < 1073741824) ∧ 1 ≤ lett v 0 ∧ (∀ i, 0 ≤ i → i < 6 → lett v i ≤ 26) ∧ ∀ i, 0 ≤ i → i < 5 → lett v i = 0 → lett v (i + 1) = 0
def TapeI (s m : CT) : Prop := s 1 0 = m 0 1 ∧ (0 ≤ m 0 1 ∧ m 0 1 ≤ 1000) ∧ ∀ i, 0 ≤ i → i < m 0 1 → s 2 i = m 1 i ∧ -128 ≤ m 1 i ∧ m 1 i < 128
def PlanI (s : CT) (wd hg mt n : Int) (nm W : Int → Int) (p : Nat) : Prop := GoodW wd hg n W ∧ PlV s p wd hg mt n nm W
def NowI (s m : CT) : Prop := Hdr (m 0 3) (m 0 4) (m 0 5) (m 0 6) ∧ (∀ l, 0 ≤ l → l < m 0 6 → NmOk (m 2 l)) ∧ PlanI s (m 0 3) (m 0 4) (m 0 5) (m 0 6) (m 2) (m 3) 6 ∧ ∃ row, BdI (m 3) (m 0 3) (m 0 4) (m 0 6) row s ∧ Own (LN (m 3) (m 0 6)) (m 3) row 1600
def SlotI (s m : CT) : Prop := ∀ j, 0 ≤ j → j < 2 → s 65 j = m 7 j ∧ (m 7 j = 0 ∨ m 7 j = 1) ∧ (m 7 j = 1 → PlanI s (m 0 3) (m 0 4) (m 0 5) (m 0 6) (m 2) (slotW m j) (313 + 29 * j.toNat))
def HistI (s m : CT) : Prop := s 66 0 = m 0 13 ∧ (0 ≤ m 0 13 ∧ m 0 13 ≤ 8) ∧ (0 ≤ s 66 1 ∧ s 66 1 < 8) ∧ ∀ i, 0 ≤ i → i < m 0 13 → PlanI s (m 0 3) (m 0 4) (m 0 5) (m 0 6) (m 2) (undoW m i) (68 + 29 * ((s 66 1 - m 0 13 + i) % 8).toNat)
def ErrI (s m : CT) : Prop := s 0 11 = m 0 2 ∧ -2 ≤ m 0 2 ∧ m 0 2 ≤ 1000
def Inv (s m : CT) : Prop := TapeI s m ∧ ErrI s m ∧ NowI s m ∧ SlotI s m ∧ HistI s m
/-- what calls that change nothing leave alone -/
def KeepM (m m' : CT) : Prop := (m' 1 = m 1 ∧ m' 2 = m 2 ∧ sameW (m 3) (m' 3) ∧ m' 5 = m 5 ∧ m' 6 = m 6 ∧ m' 7 = m 7) ∧ m' 0 1 = m 0 1 ∧ m' 0 2 = m 0 2 ∧ m' 0 3 = m 0 3 ∧ m' 0 4 = m 0 4 ∧ m' 0 5 = m 0 5 ∧ m' 0 6 = m 0 6 ∧ m' 0 13 = m 0 13
def KeepS (s s' : CT) : Prop := ∀ o, o < 3 ∨ (5 < o ∧ o < 35) ∨ (63 < o ∧ o < 308) ∨ 312 < o → s' o = s o
theorem KeepM.refl : KeepM m m := ⟨⟨rfl, rfl, fun _ _ _ => rfl, rfl, rfl, rfl⟩, rfl, rfl, rfl, rfl, rfl, rfl, rfl⟩
theorem KeepS.refl : KeepS s s := fun _ _ => rfl
theorem BdL_c (h : sameL W W') (hn : n ≤ 8) (hb : ∀ l, 0 ≤ l → l < n → LB W l) (hB : BdL W s n) : BdL W' s n := by
  have e := boardf_c h hn hb
  unfold BdL at *
  rw [← e.1, ← e.2.1, ← e.2.2.1, ← e.2.2.2.1, ← e.2.2.2.2.1]
  refine ⟨hB.1, fun l l1 l2 t t1 t2 => ?_⟩
  rw [← cT_c h (by omega)] at t2
  rw [← sc_c h (by omega) (hb l l1 l2)]
  exact hB.2 l l1 l2 t t1 t2
theorem PlanI_c (h : sameW W W') (hn : n ≤ 8) (hP : PlanI s wd hg mt n nm W q) : PlanI s wd hg mt n nm W' q := ⟨GoodW_c h hn hP.1, PlV_cn h hn (fun l a b => (hP.1.1 l a b).1) hP.2⟩
theorem PlanI_fr (hn : n ≤ 8) (hf : ∀ o, q ≤ o → o ≤ q + 28 → s' o = s o) (hP : PlanI s wd hg mt n nm W q) : PlanI s' wd hg mt n nm W q := ⟨hP.1, PlV_fr hn hf hP.2⟩
theorem BdI_fr2 (hf : ∀ o, 300 ≤ o → o ≤ 307 → s' o = s o) (h : BdI W wd hg n row s) : BdI W wd hg n row s' := by
  unfold BdI BdL at *
  rw [hf 300 (by decide) (by decide), hf 301 (by decide) (by decide), hf 302 (by decide) (by decide), hf 303 (by decide) (by decide), hf 304 (by decide) (by decide), hf 305 (by decide) (by decide), hf 306 (by decide) (by decide), hf 307 (by decide) (by decide)]
  exact h
theorem Inv_keep (h : Inv s m) (hm : KeepM m m') (hs : KeepS s s') : Inv s' m' := by
  obtain ⟨⟨k1, k2, k3, k5, k6, k7⟩, j1, j2, j3, j4, j5, j6, j13⟩ := hm
  obtain ⟨h1, h2, ⟨h3, h3n, h4, row, h5, h5'⟩, h6, h7⟩ := h
  have hn8 : m 0 6 ≤ 8 := h3.2.2.2.2
  have hLB : ∀ l, 0 ≤ l → l < m 0 6 → LB (m 3) l := fun l a b => (h4.1.1 l a b).1
  have e := boardf_c k3.toL hn8 hLB
  have eW : ∀ i, undoW m' i = undoW m i := fun i => by unfold undoW; rw [k5]
  have eS : ∀ i, slotW m' i = slotW m i := fun i => by unfold slotW; rw [k6]
  refine ⟨?_, ?_, ⟨?_, ?_, ?_, row, ?_, ?_⟩, ?_, ?_⟩
  · unfold TapeI at *
    rw [j1, k1, hs 1 (by decide), hs 2 (by decide)]
    exact h1
  · unfold ErrI at *
    rw [j2, hs 0 (by decide)]
    exact h2
  · rw [j3, j4, j5, j6]; exact h3
  · rw [j6, k2]; exact h3n
  · rw [j3, j4, j5, j6, k2]
    exact PlanI_c k3 hn8 (PlanI_fr hn8 (fun o o1 o2 => hs o (by omega)) h4)
  · rw [j3, j4, j6]
    refine BdI_fr2 (fun o o1 o2 => hs o (by omega)) ⟨h5.1, BdL_c k3.toL hn8 hLB h5.2.1, h5.2.2⟩
  · rw [j6, ← e.2.1]
    exact Own_c k3 h5'
  · intro j j0 j00
    have x := h6 j j0 j00
    rw [hs 65 (by decide), k7, j3, j4, j5, j6, k2, eS]
    exact ⟨x.1, x.2.1, fun hh => PlanI_fr hn8 (fun o o1 o2 => hs o (by omega)) (x.2.2 hh)⟩
  · obtain ⟨x1, x2, x3, x4⟩ := h7
    unfold HistI
    rw [hs 66 (by decide), j13, j3, j4, j5, j6, k2]
    refine ⟨x1, x2, x3, fun i i1 i2 => ?_⟩
    rw [eW]
    exact PlanI_fr hn8 (fun o o1 o2 => hs o (by omega)) (x4 i i1 i2)
/-! lines and plans copied -/
def cpL (s : CT) (a b : Nat) : CT := rs (rs (rs s a (ru (ru (ru (ru (s a) 0 (s b 0)) 1 (s b 1)) 2 (s b 2)) 3 (s b 3))) (a + 1) (cpR (s (b + 1)) (s (a + 1)) 10)) (a + 2) (cpR (s (b + 2)) (s (a + 2)) 10)
theorem C_copyLine (ha : isLn TD a) (hb : isLn TD b) (hab : a + 2 < b ∨ b + 2 < a) : qLn_copyFrom (z + a) (z + b) (hi z TD g w s) = rV (hi z TD g w (cpL s a b)) := by
  have c1 : ∀ (u : CT) (k : XH → XR), cpI (hi z TD g w u) (z + (b + 1)) (J 0) (z + (a + 1)) (J 0) (J 10) k = k (hi z TD g w (rs u (a + 1) (cpR (u (b + 1)) (u (a + 1)) 10))) := fun u k => cpI_hi (m := 10) hb.2.1 ha.2.1 (by omega) (by omega) (by omega) (by omega)
  have c2 : ∀ (u : CT) (k : XH → XR), cpI (hi z TD g w u) (z + (b + 2)) (J 0) (z + (a + 2)) (J 0) (J 10) k = k (hi z TD g w (rs u (a + 2) (cpR (u (b + 2)) (u (a + 2)) 10))) := fun u k => cpI_hi (m := 10) hb.2.2 ha.2.2 (by omega) (by omega) (by omega) (by omega)
  unfold qLn_copyFrom cpL
  simp (disch := first | assumption | omega) only [↓isO_L, ↓gI_L0, ↓pV_L0, ↓gI_L1, ↓pV_L1, ↓gI_L2, ↓pV_L2, ↓gI_L3, ↓pV_L3, ↓gR_L4, ↓rd_L4, ↓wr_L4, ↓gR_L5, ↓rd_L5, ↓wr_L5, pV_L0, pV_L1, pV_L2, pV_L3, rd_L4, wr_L4, rd_L5, wr_L5, J_l, J_neg, J_add, J_sub, J_mul, J_lt, J_le, J_eq, J_div2, J_rem2, J_shl1, J_orp, J_or, J_and, J_shr, J_ushr, J_max, J_min, J_abs, J_b0, ↓b0_ite, ↓b0_ite2, b0_ite, bI_r, bV_r, b01_ite, ite_true, ite_false, rZ_b, K_l, J_long, M_in, rs_same, rs_ne, rs_rs, ru_same, ru_ne, ne_eq, c1, c2]
theorem cpL_fr {o : Nat} (h : o < a ∨ a + 2 < o) : cpL s a b o = s o := by
  unfold cpL
  rw [rs_ne (by omega), rs_ne (by omega), rs_ne (by omega)]
theorem cpL_LV (hv : LV s b W l) (hb : cN W l ≤ 10) : LV (cpL s a b) a W l ∧ cpL s a b a 0 = s b 0 := by
  unfold LV cpL at *
  simp (disch := omega) only [rs_same, rs_ne, rs_rs, ru_same, ru_ne, ne_eq]
  refine ⟨⟨hv.1, hv.2.1, hv.2.2.1, fun p p1 p2 => ?_⟩, trivial⟩
  have x := hv.2.2.2 p p1 p2
  unfold cpR
  rw [if_pos (by omega), if_pos (by omega)]
  exact x
theorem C_copyPlan (ha : isPl TD a) (hb : isPl TD b) (hab : a + 28 < b ∨ b + 28 < a) (hn : 0 ≤ n ∧ n ≤ 8) (hLB : ∀ l, 0 ≤ l → l < n → LB W l) (hk : rk W 1600 ≤ 160) (hv : PlV s b wd hg mt n nm W) : ∃ s', qP_copyFrom (z + a) (z + b) (hi z TD g w s) = rV (hi z TD g w s') ∧ (∀ o, o < a ∨ a + 28 < o → s' o = s o) ∧ PlV s' a wd hg mt n nm W := by
  obtain ⟨h1, h2, h3, h4, h5, h6⟩ := hv
  have hLa : ∀ i : Int, 0 ≤ i → i < 8 → isLn TD (a + 5 + 3 * i.toNat) := fun i i1 i2 => ha.2.2.2 i.toNat (by omega)
  have hLb : ∀ i : Int, 0 ≤ i → i < 8 → isLn TD (b + 5 + 3 * i.toNat) := fun i i1 i2 => hb.2.2.2 i.toNat (by omega)
  have key := loopI (S := Int × CT) (fun N q => qP_copyFrom_34 N (z + a) (z + b) (J q.1) (hi z TD g w q.2)) (fun X => ∃ u, X = qP_copyFrom_63 (z + a) (z + b) (hi z TD g w u) ∧ (∀ o, o < a ∨ a + 28 < o → u o = s o) ∧ (u a 0 = wd ∧ u a 1 = hg ∧ u a 2 = mt ∧ u a 3 = n) ∧ (∀ l, 0 ≤ l → l < n → LV u (a + 5 + 3 * l.toNat) W l ∧ u (a + 5 + 3 * l.toNat) 0 = nm l)) (fun q => (0 ≤ q.1 ∧ q.1 ≤ n) ∧ (∀ o, o < a ∨ a + 28 < o → q.2 o = s o) ∧ (q.2 a 0 = wd ∧ q.2 a 1 = hg ∧ q.2 a 2 = mt ∧ q.2 a 3 = n) ∧ (∀ l, 0 ≤ l → l < q.1 → LV q.2 (a + 5 + 3 * l.toNat) W l ∧ q.2 (a + 5 + 3 * l.toNat) 0 = nm l)) (fun q => n - q.1) (by intro q hq; omega) (fun N q hq ih => by
    obtain ⟨i, u⟩ := q
    obtain ⟨⟨i1, i2⟩, hf, hh, hl⟩ := hq
    change 0 ≤ i at i1
    change i ≤ n at i2
    change ∀ o, o < a ∨ a + 28 < o → u o = s o at hf
    change u a 0 = wd ∧ u a 1 = hg ∧ u a 2 = mt ∧ u a 3 = n at hh
    change ∀ l, 0 ≤ l → l < i → LV u (a + 5 + 3 * l.toNat) W l ∧ u (a + 5 + 3 * l.toNat) 0 = nm l at hl
    show ∃ u', qP_copyFrom_34_b (qP_copyFrom_34 N) (z + a) (z + b) (J i) (hi z TD g w u) = _ ∧ _
    unfold qP_copyFrom_34_b
    simp (disch := first | assumption | omega) only [↓isO_P, ↓gI_P0, ↓pV_P0, ↓gI_P1, ↓pV_P1, ↓gI_P2, ↓pV_P2, ↓gI_P3, ↓pV_P3, ↓gR_P4, ↓gR_P5, ↓rd_PL, pV_P0, pV_P1, pV_P2, pV_P3, rd_PL, J_l, J_neg, J_add, J_sub, J_mul, J_lt, J_le, J_eq, J_div2, J_rem2, J_shl1, J_orp, J_or, J_and, J_shr, J_ushr, J_max, J_min, J_abs, J_b0, ↓b0_ite, ↓b0_ite2, b0_ite, bI_r, bV_r, b01_ite, ite_true, ite_false, rZ_b, K_l, J_long, M_in, hh.2.2.2]
    by_cases hc : i < n
    · have x1 := C_copyLine (z := z) (g := g) (w := w) (s := u) (hLa i i1 (by omega)) (hLb i i1 (by omega)) (by omega)
      have hia := hLa i i1 (by omega)
      have hvb : LV u (b + 5 + 3 * i.toNat) W i ∧ u (b + 5 + 3 * i.toNat) 0 = nm i := by
        have := h5 i i1 hc
        unfold LV at *
        rw [hf _ (by omega), hf _ (by omega), hf _ (by omega)]
        exact this
      have y1 := cpL_LV (a := a + 5 + 3 * i.toNat) hvb.1 (hLB i i1 hc).1.2
      rw [if_pos hc]
      simp (disch := first | assumption | omega) only [↓isO_P, ↓gI_P0, ↓pV_P0, ↓gI_P1, ↓pV_P1, ↓gI_P2, ↓pV_P2, ↓gI_P3, ↓pV_P3, ↓gR_P4, ↓gR_P5, ↓rd_PL, pV_P0, pV_P1, pV_P2, pV_P3, rd_PL, ↓isO_L, ↓gI_L0, ↓pV_L0, ↓gI_L1, ↓pV_L1, ↓gI_L2, ↓pV_L2, ↓gI_L3, ↓pV_L3, ↓gR_L4, ↓rd_L4, ↓wr_L4, ↓gR_L5, ↓rd_L5, ↓wr_L5, pV_L0, pV_L1, pV_L2, pV_L3, rd_L4, wr_L4, rd_L5, wr_L5, J_l, J_neg, J_add, J_sub, J_mul, J_lt, J_le, J_eq, J_div2, J_rem2, J_shl1, J_orp, J_or, J_and, J_shr, J_ushr, J_max, J_min, J_abs, J_b0, ↓b0_ite, ↓b0_ite2, b0_ite, bI_r, bV_r, b01_ite, ite_true, ite_false, rZ_b, K_l, J_long, M_in, x1]
      refine ih (i + 1, cpL u (a + 5 + 3 * i.toNat) (b + 5 + 3 * i.toNat)) ⟨⟨by show 0 ≤ i + 1; omega, by show i + 1 ≤ n; omega⟩, fun o ho => ?_, ?_, fun l l1 l2 => ?_⟩ (by show n - (i + 1) < n - i; omega)
      · show cpL u (a + 5 + 3 * i.toNat) (b + 5 + 3 * i.toNat) o = s o
        rw [cpL_fr (by omega), hf o ho]
      · show cpL u (a + 5 + 3 * i.toNat) (b + 5 + 3 * i.toNat) a 0 = wd ∧ cpL u (a + 5 + 3 * i.toNat) (b + 5 + 3 * i.toNat) a 1 = hg ∧ cpL u (a + 5 + 3 * i.toNat) (b + 5 + 3 * i.toNat) a 2 = mt ∧ cpL u (a + 5 + 3 * i.toNat) (b + 5 + 3 * i.toNat) a 3 = n
        rw [cpL_fr (by omega)]
        exact hh
      · show LV (cpL u (a + 5 + 3 * i.toNat) (b + 5 + 3 * i.toNat)) (a + 5 + 3 * l.toNat) W l ∧ cpL u (a + 5 + 3 * i.toNat) (b + 5 + 3 * i.toNat) (a + 5 + 3 * l.toNat) 0 = nm l
        change l < i + 1 at l2
        by_cases e : l = i
        · rw [e]
          exact ⟨y1.1, by rw [y1.2]; exact hvb.2⟩
        · have := hl l l1 (by omega)
          unfold LV at *
          rw [cpL_fr (by omega), cpL_fr (by omega), cpL_fr (by omega)]
          exact this
    · rw [if_neg hc]
      exact ⟨u, rfl, hf, hh, fun l l1 l2 => hl l l1 (by omega)⟩) (0, rs s a (ru (ru (ru (ru (s a) 0 wd) 1 hg) 2 mt) 3 n)) ⟨⟨by show (0 : Int) ≤ 0; omega, by show 0 ≤ n; omega⟩, fun o ho => rs_ne (by omega), by
      show rs s a (ru (ru (ru (ru (s a) 0 wd) 1 hg) 2 mt) 3 n) a 0 = wd ∧ rs s a (ru (ru (ru (ru (s a) 0 wd) 1 hg) 2 mt) 3 n) a 1 = hg ∧ rs s a (ru (ru (ru (ru (s a) 0 wd) 1 hg) 2 mt) 3 n) a 2 = mt ∧ rs s a (ru (ru (ru (ru (s a) 0 wd) 1 hg) 2 mt) 3 n) a 3 = n
      simp (disch := omega) only [rs_same, rs_ne, rs_rs, ru_same, ru_ne, ne_eq, and_self], fun l l1 l2 => by change l < 0 at l2; omega⟩ (by show n - 0 < 20000; omega)
  obtain ⟨u, e1, hf, hh, hl⟩ := key
  have q1 := ha.2.2.1
  have q2 := hb.2.2.1
  have c1 : ∀ (u : CT) (k : XH → XR), cpI (hi z TD g w u) (z + (b + 2 + 1)) (J 0) (z + (a + 2 + 1)) (J 0) (J 160) k = k (hi z TD g w (rs u (a + 2 + 1) (cpR (u (b + 2 + 1)) (u (a + 2 + 1)) 160))) := fun u k => cpI_hi (m := 160) q2.2.1 q1.2.1 (by omega) (by omega) (by omega) (by omega)
  have c2 : ∀ (u : CT) (k : XH → XR), cpI (hi z TD g w u) (z + (b + 2 + 2)) (J 0) (z + (a + 2 + 2)) (J 0) (J 160) k = k (hi z TD g w (rs u (a + 2 + 2) (cpR (u (b + 2 + 2)) (u (a + 2 + 2)) 160))) := fun u k => cpI_hi (m := 160) q2.2.2 q1.2.2 (by omega) (by omega) (by omega) (by omega)
  have g1 : ∀ (u : CT) (k : Int32 → XR), gI (hi z TD g w u) (z + (b + 2)) 2 0 k = k (J (u (b + 2) 0)) := fun u k => gI_hi q2.1 rfl
  have g2 : ∀ (u : CT) (v : Int) (k : XH → XR), pV (hi z TD g w u) (z + (a + 2)) 2 0 (.int (J v)) k = k (hi z TD g w (rs u (a + 2) (ru (u (a + 2)) 0 v))) := fun u v k => pV_hi q1.1 rfl
  have g3 : ∀ (u : CT) (k : Nat → XR), gR (hi z TD g w u) (z + (b + 2)) 2 1 k = k (z + (b + 2 + 1)) := fun u k => gR_hi q2.1 rfl
  have g4 : ∀ (u : CT) (k : Nat → XR), gR (hi z TD g w u) (z + (b + 2)) 2 2 k = k (z + (b + 2 + 2)) := fun u k => gR_hi q2.1 rfl
  have g5 : ∀ (u : CT) (k : Nat → XR), gR (hi z TD g w u) (z + (a + 2)) 2 1 k = k (z + (a + 2 + 1)) := fun u k => gR_hi q1.1 rfl
  have g6 : ∀ (u : CT) (k : Nat → XR), gR (hi z TD g w u) (z + (a + 2)) 2 2 k = k (z + (a + 2 + 2)) := fun u k => gR_hi q1.1 rfl
  have g7 : ∀ (u : CT) (k : XR), isO (hi z TD g w u) (z + (a + 2)) 2 k = k := fun u k => isO_hi q1.1
  have hne : b ≠ a := by omega
  unfold qP_copyFrom
  simp (disch := first | assumption | omega) only [↓isO_P, ↓gI_P0, ↓pV_P0, ↓gI_P1, ↓pV_P1, ↓gI_P2, ↓pV_P2, ↓gI_P3, ↓pV_P3, ↓gR_P4, ↓gR_P5, ↓rd_PL, pV_P0, pV_P1, pV_P2, pV_P3, rd_PL, J_l, J_neg, J_add, J_sub, J_mul, J_lt, J_le, J_eq, J_div2, J_rem2, J_shl1, J_orp, J_or, J_and, J_shr, J_ushr, J_max, J_min, J_abs, J_b0, ↓b0_ite, ↓b0_ite2, b0_ite, bI_r, bV_r, b01_ite, ite_true, ite_false, rZ_b, K_l, J_long, M_in, rs_same, rs_ne, rs_rs, ru_same, ru_ne, ne_eq, h1, h2, h3, h4]
  refine ⟨?_, e1.trans ?_, ?_, ?_⟩
  · exact rs (rs (rs u (a + 2) (ru (u (a + 2)) 0 (u (b + 2) 0))) (a + 2 + 1) (cpR (u (b + 2 + 1)) (u (a + 2 + 1)) 160)) (a + 2 + 2) (cpR (u (b + 2 + 2)) (u (a + 2 + 2)) 160)
  · unfold qP_copyFrom_63 qLb_copyFrom
    simp (disch := first | assumption | omega) only [↓isO_P, ↓gI_P0, ↓pV_P0, ↓gI_P1, ↓pV_P1, ↓gI_P2, ↓pV_P2, ↓gI_P3, ↓pV_P3, ↓gR_P4, ↓gR_P5, ↓rd_PL, pV_P0, pV_P1, pV_P2, pV_P3, rd_PL, J_l, J_neg, J_add, J_sub, J_mul, J_lt, J_le, J_eq, J_div2, J_rem2, J_shl1, J_orp, J_or, J_and, J_shr, J_ushr, J_max, J_min, J_abs, J_b0, ↓b0_ite, ↓b0_ite2, b0_ite, bI_r, bV_r, b01_ite, ite_true, ite_false, rZ_b, K_l, J_long, M_in, rs_same, rs_ne, rs_rs, ru_same, ru_ne, ne_eq, g1, g2, g3, g4, g5, g6, g7, c1, c2]
  · intro o ho
    rw [rs_ne (by omega), rs_ne (by omega), rs_ne (by omega), hf o ho]
  · have hub : u (b + 2) = s (b + 2) ∧ u (b + 2 + 1) = s (b + 2 + 1) ∧ u (b + 2 + 2) = s (b + 2 + 2) := ⟨hf _ (by omega), hf _ (by omega), hf _ (by omega)⟩
    refine ⟨?_, ?_, ?_, ?_, fun l l1 l2 => ?_, ?_⟩
    · simp (disch := omega) only [rs_same, rs_ne, rs_rs, ru_same, ru_ne, ne_eq]; exact hh.1
    · simp (disch := omega) only [rs_same, rs_ne, rs_rs, ru_same, ru_ne, ne_eq]; exact hh.2.1
    · simp (disch := omega) only [rs_same, rs_ne, rs_rs, ru_same, ru_ne, ne_eq]; exact hh.2.2.1
    · simp (disch := omega) only [rs_same, rs_ne, rs_rs, ru_same, ru_ne, ne_eq]; exact hh.2.2.2
    · have := hl l l1 l2
      unfold LV at *
      simp (disch := omega) only [rs_same, rs_ne, rs_rs, ru_same, ru_ne, ne_eq]
      exact this
    · unfold LbV at *
      simp (disch := omega) only [rs_same, rs_ne, rs_rs, ru_same, ru_ne, ne_eq, hub.1, hub.2.1, hub.2.2]
      refine ⟨h6.1, fun c c1 c2 c3 => ?_⟩
      have r1 := rk_bd (W := W) c1
      have r2 := rk_lt (W := W) (c := c) (c' := 1600) c1 c2 c3
      unfold cpR
      rw [if_pos (by omega), if_pos (by omega)]
      exact h6.2 c c1 c2 c3
end IV
