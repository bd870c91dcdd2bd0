/-! rides: the model goes by a queue -/
section RM
variable {z y : Nat} {g g' : XH} {w w' : Int64} {s s' s0 s1 s2 m m' m0 m1 m2 : CT} {G W W' V W1 row row' r0 nm lo lg sn f : Int → Int} {wd hg mt c i j l n p v t k x xx yy N q o to : Int} {a b : Nat} {h : XH}
variable {k r u e d b' c' c0 nq x' : Int} {F F' Q Q' qq : Int → Int}
/-- the queue while cell b, its k-th, is looked at -/
def QS (W : Int → Int) (n c0 k : Int) (F Q : Int → Int) (nq : Int) : Prop := (∀ c, 0 ≤ c → c < 1600 → F c = -2 ∨ (0 ≤ F c ∧ Rc W n c0 (F c).toNat c)) ∧ nq = Vn F ∧ (∀ j, 0 ≤ j → j < nq → (0 ≤ Q j ∧ Q j < 1600) ∧ 0 ≤ F (Q j) ∧ F (Q j) ≤ j) ∧ (∀ c, 0 ≤ c → c < 1600 → 0 ≤ F c → ∃ j, 0 ≤ j ∧ j < nq ∧ Q j = c) ∧ (∀ i j, 0 ≤ i → i ≤ j → j < nq → F (Q i) ≤ F (Q j)) ∧ (∀ j, 0 ≤ j → j < k → ∀ c, adj W n (Q j) c → 0 ≤ F c ∧ F c ≤ F (Q j) + 1) ∧ (0 ≤ k ∧ k ≤ nq) ∧ (k < nq → ∀ j, 0 ≤ j → j < nq → F (Q j) ≤ F (Q k) + 1) ∧ ((0 ≤ c0 ∧ c0 < 1600) ∧ F c0 = 0)
theorem QS.nb (h : QS W n c0 k F Q nq) : 0 ≤ nq ∧ nq ≤ 1600 := by
  have := cnt_bd (P := fun c => 0 ≤ F c) (n := 1600) (by omega)
  have e := h.2.1
  unfold Vn at e
  omega
theorem QS.bd (h : QS W n c0 k F Q nq) (hc : 0 ≤ c ∧ c < 1600) : -2 ≤ F c ∧ F c ≤ 1600 := by
  have hb := h.nb
  rcases h.1 c hc.1 hc.2 with e | e
  · omega
  · obtain ⟨j, j0, j1, j2⟩ := h.2.2.2.1 c hc.1 hc.2 e.1
    have := (h.2.2.1 j j0 j1).2.2
    rw [j2] at this
    omega
theorem QS_reach (hLG : ∀ l, 0 ≤ l → l < n → LG W l) (hn : 0 ≤ n) (h : QS W n c0 k F Q nq) (hk : k < nq) (ha : adj W n (Q k) c) (h0 : F c < 0) : QS W n c0 k (ru F c (F (Q k) + 1)) (ru Q nq c) (nq + 1) ∧ nq < 1600 := by
  obtain ⟨h1, h2, h3, h4, h5, h6, h7, h8, h9⟩ := h
  obtain ⟨_, hc, _⟩ := adj_in hLG hn ha
  have hk3 := h3 k h7.1 hk
  have hV : Vn (ru F c (F (Q k) + 1)) = Vn F + 1 := cnt_ru hc h0 (by omega)
  have hV2 := cnt_bd (P := fun x => 0 ≤ ru F c (F (Q k) + 1) x) (n := 1600) (by omega)
  unfold Vn at hV h2
  have hRk : Rc W n c0 (F (Q k)).toNat (Q k) := by
    rcases h1 (Q k) hk3.1.1 hk3.1.2 with e | e
    · omega
    · exact e.2
  have old : ∀ j, 0 ≤ j → j < nq → ru F c (F (Q k) + 1) (ru Q nq c j) = F (Q j) := fun j j0 j1 => by
    have := (h3 j j0 j1).2.1
    rw [ru_ne (q := Q) (show j ≠ nq by omega), ru_ne (fun e => by rw [e] at this; omega)]
  have new : ru F c (F (Q k) + 1) (ru Q nq c nq) = F (Q k) + 1 := by rw [ru_same (q := Q), ru_same]
  have keep : ∀ x, 0 ≤ F x → ru F c (F (Q k) + 1) x = F x := fun x hx => ru_ne (fun e => by rw [e] at hx; omega)
  refine ⟨⟨fun x x0 x1 => ?_, ?_, fun j j0 j1 => ?_, fun x x0 x1 x2 => ?_, fun i j i0 ij j1 => ?_, fun j j0 j1 x hx => ?_, by omega, fun _ j j0 j1 => ?_, h9.1, ?_⟩, by omega⟩
  · by_cases e : x = c
    · rw [e, ru_same]
      refine Or.inr ⟨by omega, ?_⟩
      rw [show (F (Q k) + 1).toNat = (F (Q k)).toNat + 1 by omega]
      exact ⟨Q k, hRk, ha⟩
    · rw [ru_ne e]; exact h1 x x0 x1
  · unfold Vn; omega
  · by_cases e : j = nq
    · rw [e, new, ru_same (q := Q)]
      exact ⟨hc, by omega, by omega⟩
    · rw [old j j0 (by omega), ru_ne (q := Q) e]
      exact h3 j j0 (by omega)
  · by_cases e : x = c
    · exact ⟨nq, by omega, by omega, by rw [ru_same, e]⟩
    · rw [ru_ne e] at x2
      obtain ⟨j, j0, j1, j2⟩ := h4 x x0 x1 x2
      exact ⟨j, j0, by omega, by rw [ru_ne (by omega)]; exact j2⟩
  · by_cases e : j = nq
    · rw [e, new]
      by_cases e2 : i = nq
      · rw [e2, new]; omega
      · rw [old i i0 (by omega)]
        exact h8 hk i i0 (by omega)
    · rw [old j (by omega) (by omega), old i i0 (by omega)]
      exact h5 i j i0 ij (by omega)
  · rw [ru_ne (q := Q) (show j ≠ nq by omega)] at hx
    have := h6 j j0 j1 x hx
    rw [keep x this.1, old j j0 (by omega)]
    exact this
  · rw [old k h7.1 hk]
    by_cases e : j = nq
    · rw [e, new]; omega
    · rw [old j j0 (by omega)]
      exact h8 hk j j0 (by omega)
  · rw [keep c0 (by omega)]
    exact h9.2
/-- in the model's memory -/
def QF (m0 m : CT) : Prop := (∀ o, o ≠ 0 → o ≠ 18 → o ≠ 19 → m o = m0 o) ∧ ∀ j, j ≠ 40 → m 0 j = m0 0 j
theorem QF.refl : QF m m := ⟨fun _ _ _ _ => rfl, fun _ _ => rfl⟩
theorem QF_K (h : QF m0 m) (hk : KeepM m1 m0) : KeepM m1 m := by
  obtain ⟨h1, h2⟩ := h
  obtain ⟨⟨k1, k2, k3, k5, k6, k7⟩, j1, j2, j3, j4, j5, j6, j13⟩ := hk
  unfold KeepM
  rw [h1 1 (by decide) (by decide) (by decide), h1 2 (by decide) (by decide) (by decide), h1 3 (by decide) (by decide) (by decide), h1 5 (by decide) (by decide) (by decide), h1 6 (by decide) (by decide) (by decide), h1 7 (by decide) (by decide) (by decide), h2 1 (by decide), h2 2 (by decide), h2 3 (by decide), h2 4 (by decide), h2 5 (by decide), h2 6 (by decide), h2 13 (by decide)]
  exact ⟨⟨k1, k2, k3, k5, k6, k7⟩, j1, j2, j3, j4, j5, j6, j13⟩
def rcM (m : CT) (c v : Int) : CT := rs (rs (rs m 18 (ru (m 18) c v)) 19 (ru (m 19) (m 0 40) c)) 0 (ru (m 0) 40 (m 0 40 + 1))
theorem QF_rc (h : QF m0 m) : QF m0 (rcM m c v) := by
  unfold rcM
  refine ⟨fun o o0 o1 o2 => by rw [rs_ne o0, rs_ne o2, rs_ne o1]; exact h.1 o o0 o1 o2, fun j hj => ?_⟩
  rw [rs_same, ru_ne hj]
  exact h.2 j hj
theorem rcM_r : rcM m c v 18 = ru (m 18) c v ∧ rcM m c v 19 = ru (m 19) (m 0 40) c ∧ rcM m c v 0 40 = m 0 40 + 1 := by
  unfold rcM
  exact ⟨by rw [rs_ne (by decide), rs_ne (by decide), rs_same], by rw [rs_ne (by decide), rs_same], by rw [rs_same, ru_same]⟩
theorem M_reaches0 (hc : 0 ≤ c ∧ c < 1600) (hb : -2 ≤ m 18 c ∧ m 18 c ≤ 1600) (h0 : ¬m 18 c < 0) : qM_reaches y (J c) (J v) (hi y TM g w m) = rV (hi y TM g w m) := by
  unfold qM_reaches
  simp (disch := omega) only [↓isO_M, ↓gL_H, ↓pL_H, ↓gI_M1, ↓gI_M2, ↓gI_M3, ↓gI_M4, ↓gI_M5, ↓gI_M6, ↓gI_M13, ↓gI_M22, ↓gI_M23, ↓gI_M24, ↓gI_M25, ↓gI_M27, ↓gI_M28, ↓gI_M29, ↓gI_M30, ↓gI_M31, ↓gI_M32, ↓gI_M33, ↓gI_M34, ↓gI_M35, ↓gI_M40, ↓gI_M41, ↓gI_M42, ↓gI_M43, ↓pV_M1, ↓pV_M2, ↓pV_M3, ↓pV_M4, ↓pV_M5, ↓pV_M6, ↓pV_M13, ↓pV_M22, ↓pV_M23, ↓pV_M24, ↓pV_M25, ↓pV_M27, ↓pV_M28, ↓pV_M29, ↓pV_M30, ↓pV_M31, ↓pV_M32, ↓pV_M33, ↓pV_M34, ↓pV_M35, ↓pV_M40, ↓pV_M41, ↓pV_M42, ↓pV_M43, ↓gR_M0, ↓gR_M7, ↓gR_M8, ↓gR_M9, ↓gR_M10, ↓gR_M11, ↓gR_M12, ↓gR_M14, ↓gR_M15, ↓gR_M16, ↓gR_M17, ↓gR_M18, ↓gR_M19, ↓gR_M20, ↓gR_M21, ↓gR_M36, ↓gR_M37, ↓gR_M38, ↓gR_M39, ↓rd_M1, ↓rd_M2, ↓rd_M3, ↓rd_M4, ↓rd_M5, ↓rd_M6, ↓rd_M7, ↓rd_M8, ↓rd_M9, ↓rd_M10, ↓rd_M11, ↓rd_M12, ↓rd_M13, ↓rd_M14, ↓rd_M15, ↓rd_M16, ↓rd_M17, ↓rd_M18, ↓rd_M19, ↓wr_M1, ↓wr_M2, ↓wr_M3, ↓wr_M4, ↓wr_M5, ↓wr_M6, ↓wr_M7, ↓wr_M8, ↓wr_M9, ↓wr_M10, ↓wr_M11, ↓wr_M12, ↓wr_M13, ↓wr_M14, ↓wr_M15, ↓wr_M16, ↓wr_M17, ↓wr_M18, ↓wr_M19, pL_H, pV_M1, pV_M2, pV_M3, pV_M4, pV_M5, pV_M6, pV_M13, pV_M22, pV_M23, pV_M24, pV_M25, pV_M27, pV_M28, pV_M29, pV_M30, pV_M31, pV_M32, pV_M33, pV_M34, pV_M35, pV_M40, pV_M41, pV_M42, pV_M43, rd_M1, rd_M2, rd_M3, rd_M4, rd_M5, rd_M6, rd_M7, rd_M8, rd_M9, rd_M10, rd_M11, rd_M12, rd_M13, rd_M14, rd_M15, rd_M16, rd_M17, rd_M18, rd_M19, wr_M1, wr_M2, wr_M3, wr_M4, wr_M5, wr_M6, wr_M7, wr_M8, wr_M9, wr_M10, wr_M11, wr_M12, wr_M13, wr_M14, wr_M15, wr_M16, wr_M17, wr_M18, wr_M19, J_l, J_neg, J_add, J_sub, J_mul, J_lt, J_le, J_eq, J_div2, J_rem2, J_shl1, J_orp, J_or, J_and, J_shr, J_ushr, J_max, J_min, J_abs, J_b0, ↓b0_ite, ↓b0_ite2, b0_ite, bI_r, bV_r, b01_ite, ite_true, ite_false, rZ_b, K_l, J_long, M_in]
  rw [if_neg h0]
theorem M_reaches1 (hc : 0 ≤ c ∧ c < 1600) (hb : -2 ≤ m 18 c ∧ m 18 c ≤ 1600) (h40 : 0 ≤ m 0 40 ∧ m 0 40 < 1600) (h0 : m 18 c < 0) : qM_reaches y (J c) (J v) (hi y TM g w m) = rV (hi y TM g w (rcM m c v)) := by
  unfold qM_reaches rcM
  simp (disch := omega) only [↓isO_M, ↓gL_H, ↓pL_H, ↓gI_M1, ↓gI_M2, ↓gI_M3, ↓gI_M4, ↓gI_M5, ↓gI_M6, ↓gI_M13, ↓gI_M22, ↓gI_M23, ↓gI_M24, ↓gI_M25, ↓gI_M27, ↓gI_M28, ↓gI_M29, ↓gI_M30, ↓gI_M31, ↓gI_M32, ↓gI_M33, ↓gI_M34, ↓gI_M35, ↓gI_M40, ↓gI_M41, ↓gI_M42, ↓gI_M43, ↓pV_M1, ↓pV_M2, ↓pV_M3, ↓pV_M4, ↓pV_M5, ↓pV_M6, ↓pV_M13, ↓pV_M22, ↓pV_M23, ↓pV_M24, ↓pV_M25, ↓pV_M27, ↓pV_M28, ↓pV_M29, ↓pV_M30, ↓pV_M31, ↓pV_M32, ↓pV_M33, ↓pV_M34, ↓pV_M35, ↓pV_M40, ↓pV_M41, ↓pV_M42, ↓pV_M43, ↓gR_M0, ↓gR_M7, ↓gR_M8, ↓gR_M9, ↓gR_M10, ↓gR_M11, ↓gR_M12, ↓gR_M14, ↓gR_M15, ↓gR_M16, ↓gR_M17, ↓gR_M18, ↓gR_M19, ↓gR_M20, ↓gR_M21, ↓gR_M36, ↓gR_M37, ↓gR_M38, ↓gR_M39, ↓rd_M1, ↓rd_M2, ↓rd_M3, ↓rd_M4, ↓rd_M5, ↓rd_M6, ↓rd_M7, ↓rd_M8, ↓rd_M9, ↓rd_M10, ↓rd_M11, ↓rd_M12, ↓rd_M13, ↓rd_M14, ↓rd_M15, ↓rd_M16, ↓rd_M17, ↓rd_M18, ↓rd_M19, ↓wr_M1, ↓wr_M2, ↓wr_M3, ↓wr_M4, ↓wr_M5, ↓wr_M6, ↓wr_M7, ↓wr_M8, ↓wr_M9, ↓wr_M10, ↓wr_M11, ↓wr_M12, ↓wr_M13, ↓wr_M14, ↓wr_M15, ↓wr_M16, ↓wr_M17, ↓wr_M18, ↓wr_M19, pL_H, pV_M1, pV_M2, pV_M3, pV_M4, pV_M5, pV_M6, pV_M13, pV_M22, pV_M23, pV_M24, pV_M25, pV_M27, pV_M28, pV_M29, pV_M30, pV_M31, pV_M32, pV_M33, pV_M34, pV_M35, pV_M40, pV_M41, pV_M42, pV_M43, rd_M1, rd_M2, rd_M3, rd_M4, rd_M5, rd_M6, rd_M7, rd_M8, rd_M9, rd_M10, rd_M11, rd_M12, rd_M13, rd_M14, rd_M15, rd_M16, rd_M17, rd_M18, rd_M19, wr_M1, wr_M2, wr_M3, wr_M4, wr_M5, wr_M6, wr_M7, wr_M8, wr_M9, wr_M10, wr_M11, wr_M12, wr_M13, wr_M14, wr_M15, wr_M16, wr_M17, wr_M18, wr_M19, J_l, J_neg, J_add, J_sub, J_mul, J_lt, J_le, J_eq, J_div2, J_rem2, J_shl1, J_orp, J_or, J_and, J_shr, J_ushr, J_max, J_min, J_abs, J_b0, ↓b0_ite, ↓b0_ite2, b0_ite, bI_r, bV_r, b01_ite, ite_true, ite_false, rZ_b, K_l, J_long, M_in, rs_same, rs_ne, rs_rs, ru_same, ru_ne, ne_eq]
  rw [if_pos h0]
def QM (W : Int → Int) (n c0 k : Int) (m0 m : CT) : Prop := QF m0 m ∧ QS W n c0 k (m 18) (m 19) (m 0 40)
theorem M_reachQ (hLG : ∀ l, 0 ≤ l → l < n → LG W l) (hn : 0 ≤ n) (h : QM W n c0 k m0 m) (hk : k < m 0 40) (ha : adj W n (m 19 k) c) : ∃ m', qM_reaches y (J c) (J (m 18 (m 19 k) + 1)) (hi y TM g w m) = rV (hi y TM g w m') ∧ QM W n c0 k m0 m' ∧ (k < m' 0 40 ∧ m' 19 k = m 19 k) ∧ (∀ x, 0 ≤ m 18 x → m' 18 x = m 18 x) ∧ 0 ≤ m' 18 c := by
  obtain ⟨hF, hQ⟩ := h
  obtain ⟨_, hc, _⟩ := adj_in hLG hn ha
  have hb := hQ.bd hc
  have hnb := hQ.nb
  have h7 := hQ.2.2.2.2.2.2.1
  by_cases h0 : m 18 c < 0
  · obtain ⟨q1, q2⟩ := QS_reach hLG hn hQ hk ha h0
    obtain ⟨r1, r2, r3⟩ := rcM_r (m := m) (c := c) (v := m 18 (m 19 k) + 1)
    refine ⟨_, M_reaches1 hc hb ⟨by omega, q2⟩ h0, ⟨QF_rc hF, by rw [r1, r2, r3]; exact q1⟩, ⟨by rw [r3]; omega, by rw [r2, ru_ne (by omega)]⟩, fun x hx => by rw [r1, ru_ne (fun e => by rw [e] at hx; omega)], ?_⟩
    rw [r1, ru_same]
    have := (hQ.2.2.1 k h7.1 hk).2.1
    omega
  · exact ⟨m, M_reaches0 hc hb h0, ⟨hF, hQ⟩, ⟨hk, rfl⟩, fun _ _ => rfl, by omega⟩
/-- stations of the cell that are done -/
def PM (W : Int → Int) (n b : Int) (F : Int → Int) (l t : Int) : Prop := ∀ l' t', (0 ≤ l' ∧ l' < n) → (0 ≤ t' ∧ t' < cT W l') → (l' < l ∨ (l' = l ∧ t' < t)) → sc W l' t' = b → (1 ≤ t' → 0 ≤ F (sc W l' (t' - 1))) ∧ (t' + 1 < cT W l' → 0 ≤ F (sc W l' (t' + 1)))
theorem PM_ex (hp : PM W n b' F l t) (hx : ∀ x, 0 ≤ F x → F' x = F x) : PM W n b' F' l t := fun l' t' q1 q2 q3 q4 => by
  have y := hp l' t' q1 q2 q3 q4
  exact ⟨fun z1 => by rw [hx _ (y.1 z1)]; exact y.1 z1, fun z1 => by rw [hx _ (y.2 z1)]; exact y.2 z1⟩
/-- the model's lines laid, while it rides -/
def TmE (m : CT) (W : Int → Int) (n : Int) : Prop := (0 ≤ n ∧ n ≤ 8) ∧ (∀ l, 0 ≤ l → l < n → LG W l) ∧ m 0 6 = n ∧ m 3 = W ∧ ∀ l, 0 ≤ l → l < n → m 8 l = len W l ∧ ∀ i, 0 ≤ i → i ≤ len W l → m 9 (400 * l + i) = Ps W l i
theorem TmE_q (h : TmE m0 W n) (hq : QF m0 m) : TmE m W n := by
  obtain ⟨hn, hG, h1, h2, h3⟩ := h
  refine ⟨hn, hG, by rw [hq.2 6 (by decide)]; exact h1, by rw [hq.1 3 (by decide) (by decide) (by decide)]; exact h2, fun l l0 l1 => ?_⟩
  rw [hq.1 8 (by decide) (by decide) (by decide), hq.1 9 (by decide) (by decide) (by decide)]
  exact h3 l l0 l1
theorem TmE.cell (h : TmE m W n) (hl : 0 ≤ l ∧ l < n) (ht : 0 ≤ t ∧ t < cT W l) : qM_cellOf y (J l) (J t) (hi y TM g w m) = rI (J (sc W l t)) (hi y TM g w m) := by
  obtain ⟨hn, hG, h1, h2, h3⟩ := h
  subst h2
  exact M_cellOf (by omega) (hG l hl.1 hl.2) (h3 l hl.1 hl.2).1 (h3 l hl.1 hl.2).2 ht
theorem TmE.stops (h : TmE m W n) (hl : 0 ≤ l ∧ l < n) : qM_of y (J l) (J 1) (hi y TM g w m) = rI (J (cT W l)) (hi y TM g w m) := by
  obtain ⟨hn, hG, h1, h2, h3⟩ := h
  subst h2
  exact M_oT (by omega)
theorem M_ride12 {k2 : Nat → Int32 → Int32 → XH → XR} (hE : TmE m0 W n) (hl : 0 ≤ l ∧ l < n) (hQ : QM W n c0 k m0 m ∧ k < m 0 40 ∧ m 19 k = b') (hp : PM W n b' (m 18) l 0) : ∃ m', qM_ridesOn_12 k2 LF y (J b') (J l) (J 0) (hi y TM g w m) = k2 y (J b') (J (l + 1)) (hi y TM g w m') ∧ (QM W n c0 k m0 m' ∧ k < m' 0 40 ∧ m' 19 k = b') ∧ PM W n b' (m' 18) (l + 1) 0 := by
  have hn := hE.1
  have hb := (hE.2.1 l hl.1 hl.2).1
  have bt := hb.2.1
  refine loopI (S := Int × CT) (fun N q => qM_ridesOn_12 k2 N y (J b') (J l) (J q.1) (hi y TM g w q.2)) (fun X => ∃ m', X = k2 y (J b') (J (l + 1)) (hi y TM g w m') ∧ (QM W n c0 k m0 m' ∧ k < m' 0 40 ∧ m' 19 k = b') ∧ PM W n b' (m' 18) (l + 1) 0) (fun q => (0 ≤ q.1 ∧ q.1 ≤ cT W l) ∧ (QM W n c0 k m0 q.2 ∧ k < q.2 0 40 ∧ q.2 19 k = b') ∧ PM W n b' (q.2 18) l q.1) (fun q => cT W l - q.1) (by intro q hq; omega) (fun N q hq ih => ?_) (0, m) ⟨by show (0 : Int) ≤ 0 ∧ 0 ≤ cT W l; omega, hQ, hp⟩ (by show cT W l - 0 < 20000; omega)
  obtain ⟨t, m⟩ := q
  obtain ⟨ht, ⟨hQ, hk, hb'⟩, hp⟩ := hq
  change 0 ≤ t ∧ t ≤ cT W l at ht
  change QM W n c0 k m0 m at hQ
  change k < m 0 40 at hk
  change m 19 k = b' at hb'
  change PM W n b' (m 18) l t at hp
  have hE2 := TmE_q hE hQ.1
  have bin : 0 ≤ b' ∧ b' < 1600 := by
    have := (hQ.2.2.2.1 k hQ.2.2.2.2.2.2.2.1.1 hk).1
    rw [hb'] at this
    exact this
  show ∃ m', qM_ridesOn_12_b k2 (qM_ridesOn_12 k2 N) y (J b') (J l) (J t) (hi y TM g w m) = _ ∧ _
  unfold qM_ridesOn_12_b
  simp (disch := omega) only [↓isO_M, ↓gL_H, ↓pL_H, ↓gI_M1, ↓gI_M2, ↓gI_M3, ↓gI_M4, ↓gI_M5, ↓gI_M6, ↓gI_M13, ↓gI_M22, ↓gI_M23, ↓gI_M24, ↓gI_M25, ↓gI_M27, ↓gI_M28, ↓gI_M29, ↓gI_M30, ↓gI_M31, ↓gI_M32, ↓gI_M33, ↓gI_M34, ↓gI_M35, ↓gI_M40, ↓gI_M41, ↓gI_M42, ↓gI_M43, ↓pV_M1, ↓pV_M2, ↓pV_M3, ↓pV_M4, ↓pV_M5, ↓pV_M6, ↓pV_M13, ↓pV_M22, ↓pV_M23, ↓pV_M24, ↓pV_M25, ↓pV_M27, ↓pV_M28, ↓pV_M29, ↓pV_M30, ↓pV_M31, ↓pV_M32, ↓pV_M33, ↓pV_M34, ↓pV_M35, ↓pV_M40, ↓pV_M41, ↓pV_M42, ↓pV_M43, ↓gR_M0, ↓gR_M7, ↓gR_M8, ↓gR_M9, ↓gR_M10, ↓gR_M11, ↓gR_M12, ↓gR_M14, ↓gR_M15, ↓gR_M16, ↓gR_M17, ↓gR_M18, ↓gR_M19, ↓gR_M20, ↓gR_M21, ↓gR_M36, ↓gR_M37, ↓gR_M38, ↓gR_M39, ↓rd_M1, ↓rd_M2, ↓rd_M3, ↓rd_M4, ↓rd_M5, ↓rd_M6, ↓rd_M7, ↓rd_M8, ↓rd_M9, ↓rd_M10, ↓rd_M11, ↓rd_M12, ↓rd_M13, ↓rd_M14, ↓rd_M15, ↓rd_M16, ↓rd_M17, ↓rd_M18, ↓rd_M19, ↓wr_M1, ↓wr_M2, ↓wr_M3, ↓wr_M4, ↓wr_M5, ↓wr_M6, ↓wr_M7, ↓wr_M8, ↓wr_M9, ↓wr_M10, ↓wr_M11, ↓wr_M12, ↓wr_M13, ↓wr_M14, ↓wr_M15, ↓wr_M16, ↓wr_M17, ↓wr_M18, ↓wr_M19, pL_H, pV_M1, pV_M2, pV_M3, pV_M4, pV_M5, pV_M6, pV_M13, pV_M22, pV_M23, pV_M24, pV_M25, pV_M27, pV_M28, pV_M29, pV_M30, pV_M31, pV_M32, pV_M33, pV_M34, pV_M35, pV_M40, pV_M41, pV_M42, pV_M43, rd_M1, rd_M2, rd_M3, rd_M4, rd_M5, rd_M6, rd_M7, rd_M8, rd_M9, rd_M10, rd_M11, rd_M12, rd_M13, rd_M14, rd_M15, rd_M16, rd_M17, rd_M18, rd_M19, wr_M1, wr_M2, wr_M3, wr_M4, wr_M5, wr_M6, wr_M7, wr_M8, wr_M9, wr_M10, wr_M11, wr_M12, wr_M13, wr_M14, wr_M15, wr_M16, wr_M17, wr_M18, wr_M19, J_l, J_neg, J_add, J_sub, J_mul, J_lt, J_le, J_eq, J_div2, J_rem2, J_shl1, J_orp, J_or, J_and, J_shr, J_ushr, J_max, J_min, J_abs, J_b0, ↓b0_ite, ↓b0_ite2, b0_ite, bI_r, bV_r, b01_ite, ite_true, ite_false, rZ_b, K_l, J_long, M_in, hE2.stops hl]
  by_cases h0 : t < cT W l
  · rw [if_pos h0]
    have hs := sc_in (hE.2.1 l hl.1 hl.2) ht.1 h0
    simp (disch := omega) only [↓isO_M, ↓gL_H, ↓pL_H, ↓gI_M1, ↓gI_M2, ↓gI_M3, ↓gI_M4, ↓gI_M5, ↓gI_M6, ↓gI_M13, ↓gI_M22, ↓gI_M23, ↓gI_M24, ↓gI_M25, ↓gI_M27, ↓gI_M28, ↓gI_M29, ↓gI_M30, ↓gI_M31, ↓gI_M32, ↓gI_M33, ↓gI_M34, ↓gI_M35, ↓gI_M40, ↓gI_M41, ↓gI_M42, ↓gI_M43, ↓pV_M1, ↓pV_M2, ↓pV_M3, ↓pV_M4, ↓pV_M5, ↓pV_M6, ↓pV_M13, ↓pV_M22, ↓pV_M23, ↓pV_M24, ↓pV_M25, ↓pV_M27, ↓pV_M28, ↓pV_M29, ↓pV_M30, ↓pV_M31, ↓pV_M32, ↓pV_M33, ↓pV_M34, ↓pV_M35, ↓pV_M40, ↓pV_M41, ↓pV_M42, ↓pV_M43, ↓gR_M0, ↓gR_M7, ↓gR_M8, ↓gR_M9, ↓gR_M10, ↓gR_M11, ↓gR_M12, ↓gR_M14, ↓gR_M15, ↓gR_M16, ↓gR_M17, ↓gR_M18, ↓gR_M19, ↓gR_M20, ↓gR_M21, ↓gR_M36, ↓gR_M37, ↓gR_M38, ↓gR_M39, ↓rd_M1, ↓rd_M2, ↓rd_M3, ↓rd_M4, ↓rd_M5, ↓rd_M6, ↓rd_M7, ↓rd_M8, ↓rd_M9, ↓rd_M10, ↓rd_M11, ↓rd_M12, ↓rd_M13, ↓rd_M14, ↓rd_M15, ↓rd_M16, ↓rd_M17, ↓rd_M18, ↓rd_M19, ↓wr_M1, ↓wr_M2, ↓wr_M3, ↓wr_M4, ↓wr_M5, ↓wr_M6, ↓wr_M7, ↓wr_M8, ↓wr_M9, ↓wr_M10, ↓wr_M11, ↓wr_M12, ↓wr_M13, ↓wr_M14, ↓wr_M15, ↓wr_M16, ↓wr_M17, ↓wr_M18, ↓wr_M19, pL_H, pV_M1, pV_M2, pV_M3, pV_M4, pV_M5, pV_M6, pV_M13, pV_M22, pV_M23, pV_M24, pV_M25, pV_M27, pV_M28, pV_M29, pV_M30, pV_M31, pV_M32, pV_M33, pV_M34, pV_M35, pV_M40, pV_M41, pV_M42, pV_M43, rd_M1, rd_M2, rd_M3, rd_M4, rd_M5, rd_M6, rd_M7, rd_M8, rd_M9, rd_M10, rd_M11, rd_M12, rd_M13, rd_M14, rd_M15, rd_M16, rd_M17, rd_M18, rd_M19, wr_M1, wr_M2, wr_M3, wr_M4, wr_M5, wr_M6, wr_M7, wr_M8, wr_M9, wr_M10, wr_M11, wr_M12, wr_M13, wr_M14, wr_M15, wr_M16, wr_M17, wr_M18, wr_M19, J_l, J_neg, J_add, J_sub, J_mul, J_lt, J_le, J_eq, J_div2, J_rem2, J_shl1, J_orp, J_or, J_and, J_shr, J_ushr, J_max, J_min, J_abs, J_b0, ↓b0_ite, ↓b0_ite2, b0_ite, bI_r, bV_r, b01_ite, ite_true, ite_false, rZ_b, K_l, J_long, M_in, hE2.cell hl ⟨ht.1, h0⟩]
    by_cases h1 : sc W l t = b'
    · rw [if_pos h1]
      have tail : ∀ (m2 : CT), QM W n c0 k m0 m2 → k < m2 0 40 → m2 19 k = b' → (∀ x, 0 ≤ m 18 x → m2 18 x = m 18 x) → (1 ≤ t → 0 ≤ m2 18 (sc W l (t - 1))) → ∃ m', qM_ridesOn_59 k2 (qM_ridesOn_12 k2 N) y (J b') (J l) (J t) (hi y TM g w m2) = k2 y (J b') (J (l + 1)) (hi y TM g w m') ∧ (QM W n c0 k m0 m' ∧ k < m' 0 40 ∧ m' 19 k = b') ∧ PM W n b' (m' 18) (l + 1) 0 := by
        intro m2 hQ2 hk2 hb2 hx2 hd2
        have hE3 := TmE_q hE hQ2.1
        have hp2 := PM_ex hp hx2
        have fin : ∀ (m3 : CT), QM W n c0 k m0 m3 → k < m3 0 40 → m3 19 k = b' → (∀ x, 0 ≤ m2 18 x → m3 18 x = m2 18 x) → (t + 1 < cT W l → 0 ≤ m3 18 (sc W l (t + 1))) → ∃ m', qM_ridesOn_12 k2 N y (J b') (J l) (J (t + 1)) (hi y TM g w m3) = k2 y (J b') (J (l + 1)) (hi y TM g w m') ∧ (QM W n c0 k m0 m' ∧ k < m' 0 40 ∧ m' 19 k = b') ∧ PM W n b' (m' 18) (l + 1) 0 := fun m3 hQ3 hk3 hb3 hx3 hd3 => by
          have hp3 := PM_ex hp2 hx3
          refine ih (t + 1, m3) ⟨by show 0 ≤ t + 1 ∧ t + 1 ≤ cT W l; omega, ⟨hQ3, hk3, hb3⟩, fun l' t' q1 q2 q3 q4 => ?_⟩ (by show cT W l - (t + 1) < cT W l - t; omega)
          show (1 ≤ t' → 0 ≤ m3 18 (sc W l' (t' - 1))) ∧ (t' + 1 < cT W l' → 0 ≤ m3 18 (sc W l' (t' + 1)))
          change l' < l ∨ (l' = l ∧ t' < t + 1) at q3
          by_cases e : l' = l ∧ t' = t
          · rw [e.1, e.2]
            exact ⟨fun z1 => by rw [hx3 _ (hd2 z1)]; exact hd2 z1, hd3⟩
          · exact hp3 l' t' q1 q2 (by omega) q4
        unfold qM_ridesOn_59
        simp (disch := omega) only [↓isO_M, ↓gL_H, ↓pL_H, ↓gI_M1, ↓gI_M2, ↓gI_M3, ↓gI_M4, ↓gI_M5, ↓gI_M6, ↓gI_M13, ↓gI_M22, ↓gI_M23, ↓gI_M24, ↓gI_M25, ↓gI_M27, ↓gI_M28, ↓gI_M29, ↓gI_M30, ↓gI_M31, ↓gI_M32, ↓gI_M33, ↓gI_M34, ↓gI_M35, ↓gI_M40, ↓gI_M41, ↓gI_M42, ↓gI_M43, ↓pV_M1, ↓pV_M2, ↓pV_M3, ↓pV_M4, ↓pV_M5, ↓pV_M6, ↓pV_M13, ↓pV_M22, ↓pV_M23, ↓pV_M24, ↓pV_M25, ↓pV_M27, ↓pV_M28, ↓pV_M29, ↓pV_M30, ↓pV_M31, ↓pV_M32, ↓pV_M33, ↓pV_M34, ↓pV_M35, ↓pV_M40, ↓pV_M41, ↓pV_M42, ↓pV_M43, ↓gR_M0, ↓gR_M7, ↓gR_M8, ↓gR_M9, ↓gR_M10, ↓gR_M11, ↓gR_M12, ↓gR_M14, ↓gR_M15, ↓gR_M16, ↓gR_M17, ↓gR_M18, ↓gR_M19, ↓gR_M20, ↓gR_M21, ↓gR_M36, ↓gR_M37, ↓gR_M38, ↓gR_M39, ↓rd_M1, ↓rd_M2, ↓rd_M3, ↓rd_M4, ↓rd_M5, ↓rd_M6, ↓rd_M7, ↓rd_M8, ↓rd_M9, ↓rd_M10, ↓rd_M11, ↓rd_M12, ↓rd_M13, ↓rd_M14, ↓rd_M15, ↓rd_M16, ↓rd_M17, ↓rd_M18, ↓rd_M19, ↓wr_M1, ↓wr_M2, ↓wr_M3, ↓wr_M4, ↓wr_M5, ↓wr_M6, ↓wr_M7, ↓wr_M8, ↓wr_M9, ↓wr_M10, ↓wr_M11, ↓wr_M12, ↓wr_M13, ↓wr_M14, ↓wr_M15, ↓wr_M16, ↓wr_M17, ↓wr_M18, ↓wr_M19, pL_H, pV_M1, pV_M2, pV_M3, pV_M4, pV_M5, pV_M6, pV_M13, pV_M22, pV_M23, pV_M24, pV_M25, pV_M27, pV_M28, pV_M29, pV_M30, pV_M31, pV_M32, pV_M33, pV_M34, pV_M35, pV_M40, pV_M41, pV_M42, pV_M43, rd_M1, rd_M2, rd_M3, rd_M4, rd_M5, rd_M6, rd_M7, rd_M8, rd_M9, rd_M10, rd_M11, rd_M12, rd_M13, rd_M14, rd_M15, rd_M16, rd_M17, rd_M18, rd_M19, wr_M1, wr_M2, wr_M3, wr_M4, wr_M5, wr_M6, wr_M7, wr_M8, wr_M9, wr_M10, wr_M11, wr_M12, wr_M13, wr_M14, wr_M15, wr_M16, wr_M17, wr_M18, wr_M19, J_l, J_neg, J_add, J_sub, J_mul, J_lt, J_le, J_eq, J_div2, J_rem2, J_shl1, J_orp, J_or, J_and, J_shr, J_ushr, J_max, J_min, J_abs, J_b0, ↓b0_ite, ↓b0_ite2, b0_ite, bI_r, bV_r, b01_ite, ite_true, ite_false, rZ_b, K_l, J_long, M_in, hE3.stops hl]
        by_cases h2 : t + 1 < cT W l
        · rw [if_pos h2]
          obtain ⟨m3, e1, e2, ⟨e3, e4⟩, e5, e6⟩ := M_reachQ (y := y) (g := g) (w := w) (c := sc W l (t + 1)) hE.2.1 hn.1 hQ2 hk2 (by rw [hb2]; exact ⟨l, t, hl, ⟨ht.1, h2⟩, Or.inl ⟨h1, rfl⟩⟩)
          rw [hb2] at e1 e4
          have fb := hQ2.2.bd bin
          simp (disch := omega) only [↓isO_M, ↓gL_H, ↓pL_H, ↓gI_M1, ↓gI_M2, ↓gI_M3, ↓gI_M4, ↓gI_M5, ↓gI_M6, ↓gI_M13, ↓gI_M22, ↓gI_M23, ↓gI_M24, ↓gI_M25, ↓gI_M27, ↓gI_M28, ↓gI_M29, ↓gI_M30, ↓gI_M31, ↓gI_M32, ↓gI_M33, ↓gI_M34, ↓gI_M35, ↓gI_M40, ↓gI_M41, ↓gI_M42, ↓gI_M43, ↓pV_M1, ↓pV_M2, ↓pV_M3, ↓pV_M4, ↓pV_M5, ↓pV_M6, ↓pV_M13, ↓pV_M22, ↓pV_M23, ↓pV_M24, ↓pV_M25, ↓pV_M27, ↓pV_M28, ↓pV_M29, ↓pV_M30, ↓pV_M31, ↓pV_M32, ↓pV_M33, ↓pV_M34, ↓pV_M35, ↓pV_M40, ↓pV_M41, ↓pV_M42, ↓pV_M43, ↓gR_M0, ↓gR_M7, ↓gR_M8, ↓gR_M9, ↓gR_M10, ↓gR_M11, ↓gR_M12, ↓gR_M14, ↓gR_M15, ↓gR_M16, ↓gR_M17, ↓gR_M18, ↓gR_M19, ↓gR_M20, ↓gR_M21, ↓gR_M36, ↓gR_M37, ↓gR_M38, ↓gR_M39, ↓rd_M1, ↓rd_M2, ↓rd_M3, ↓rd_M4, ↓rd_M5, ↓rd_M6, ↓rd_M7, ↓rd_M8, ↓rd_M9, ↓rd_M10, ↓rd_M11, ↓rd_M12, ↓rd_M13, ↓rd_M14, ↓rd_M15, ↓rd_M16, ↓rd_M17, ↓rd_M18, ↓rd_M19, ↓wr_M1, ↓wr_M2, ↓wr_M3, ↓wr_M4, ↓wr_M5, ↓wr_M6, ↓wr_M7, ↓wr_M8, ↓wr_M9, ↓wr_M10, ↓wr_M11, ↓wr_M12, ↓wr_M13, ↓wr_M14, ↓wr_M15, ↓wr_M16, ↓wr_M17, ↓wr_M18, ↓wr_M19, pL_H, pV_M1, pV_M2, pV_M3, pV_M4, pV_M5, pV_M6, pV_M13, pV_M22, pV_M23, pV_M24, pV_M25, pV_M27, pV_M28, pV_M29, pV_M30, pV_M31, pV_M32, pV_M33, pV_M34, pV_M35, pV_M40, pV_M41, pV_M42, pV_M43, rd_M1, rd_M2, rd_M3, rd_M4, rd_M5, rd_M6, rd_M7, rd_M8, rd_M9, rd_M10, rd_M11, rd_M12, rd_M13, rd_M14, rd_M15, rd_M16, rd_M17, rd_M18, rd_M19, wr_M1, wr_M2, wr_M3, wr_M4, wr_M5, wr_M6, wr_M7, wr_M8, wr_M9, wr_M10, wr_M11, wr_M12, wr_M13, wr_M14, wr_M15, wr_M16, wr_M17, wr_M18, wr_M19, J_l, J_neg, J_add, J_sub, J_mul, J_lt, J_le, J_eq, J_div2, J_rem2, J_shl1, J_orp, J_or, J_and, J_shr, J_ushr, J_max, J_min, J_abs, J_b0, ↓b0_ite, ↓b0_ite2, b0_ite, bI_r, bV_r, b01_ite, ite_true, ite_false, rZ_b, K_l, J_long, M_in, hE3.cell hl ⟨show 0 ≤ t + 1 by omega, h2⟩, e1]
          exact fin m3 e2 e3 e4 e5 (fun _ => e6)
        · rw [if_neg h2]
          exact fin m2 hQ2 hk2 hb2 (fun _ _ => rfl) (fun q => absurd q h2)
      by_cases h2 : 0 < t
      · rw [if_pos h2]
        obtain ⟨m3, e1, e2, ⟨e3, e4⟩, e5, e6⟩ := M_reachQ (y := y) (g := g) (w := w) (c := sc W l (t - 1)) hE.2.1 hn.1 hQ hk (by rw [hb']; exact ⟨l, t - 1, hl, ⟨by omega, by omega⟩, Or.inr ⟨by rw [show t - 1 + 1 = t by omega]; exact h1, rfl⟩⟩)
        rw [hb'] at e1 e4
        have fb := hQ.2.bd bin
        simp (disch := omega) only [↓isO_M, ↓gL_H, ↓pL_H, ↓gI_M1, ↓gI_M2, ↓gI_M3, ↓gI_M4, ↓gI_M5, ↓gI_M6, ↓gI_M13, ↓gI_M22, ↓gI_M23, ↓gI_M24, ↓gI_M25, ↓gI_M27, ↓gI_M28, ↓gI_M29, ↓gI_M30, ↓gI_M31, ↓gI_M32, ↓gI_M33, ↓gI_M34, ↓gI_M35, ↓gI_M40, ↓gI_M41, ↓gI_M42, ↓gI_M43, ↓pV_M1, ↓pV_M2, ↓pV_M3, ↓pV_M4, ↓pV_M5, ↓pV_M6, ↓pV_M13, ↓pV_M22, ↓pV_M23, ↓pV_M24, ↓pV_M25, ↓pV_M27, ↓pV_M28, ↓pV_M29, ↓pV_M30, ↓pV_M31, ↓pV_M32, ↓pV_M33, ↓pV_M34, ↓pV_M35, ↓pV_M40, ↓pV_M41, ↓pV_M42, ↓pV_M43, ↓gR_M0, ↓gR_M7, ↓gR_M8, ↓gR_M9, ↓gR_M10, ↓gR_M11, ↓gR_M12, ↓gR_M14, ↓gR_M15, ↓gR_M16, ↓gR_M17, ↓gR_M18, ↓gR_M19, ↓gR_M20, ↓gR_M21, ↓gR_M36, ↓gR_M37, ↓gR_M38, ↓gR_M39, ↓rd_M1, ↓rd_M2, ↓rd_M3, ↓rd_M4, ↓rd_M5, ↓rd_M6, ↓rd_M7, ↓rd_M8, ↓rd_M9, ↓rd_M10, ↓rd_M11, ↓rd_M12, ↓rd_M13, ↓rd_M14, ↓rd_M15, ↓rd_M16, ↓rd_M17, ↓rd_M18, ↓rd_M19, ↓wr_M1, ↓wr_M2, ↓wr_M3, ↓wr_M4, ↓wr_M5, ↓wr_M6, ↓wr_M7, ↓wr_M8, ↓wr_M9, ↓wr_M10, ↓wr_M11, ↓wr_M12, ↓wr_M13, ↓wr_M14, ↓wr_M15, ↓wr_M16, ↓wr_M17, ↓wr_M18, ↓wr_M19, pL_H, pV_M1, pV_M2, pV_M3, pV_M4, pV_M5, pV_M6, pV_M13, pV_M22, pV_M23, pV_M24, pV_M25, pV_M27, pV_M28, pV_M29, pV_M30, pV_M31, pV_M32, pV_M33, pV_M34, pV_M35, pV_M40, pV_M41, pV_M42, pV_M43, rd_M1, rd_M2, rd_M3, rd_M4, rd_M5, rd_M6, rd_M7, rd_M8, rd_M9, rd_M10, rd_M11, rd_M12, rd_M13, rd_M14, rd_M15, rd_M16, rd_M17, rd_M18, rd_M19, wr_M1, wr_M2, wr_M3, wr_M4, wr_M5, wr_M6, wr_M7, wr_M8, wr_M9, wr_M10, wr_M11, wr_M12, wr_M13, wr_M14, wr_M15, wr_M16, wr_M17, wr_M18, wr_M19, J_l, J_neg, J_add, J_sub, J_mul, J_lt, J_le, J_eq, J_div2, J_rem2, J_shl1, J_orp, J_or, J_and, J_shr, J_ushr, J_max, J_min, J_abs, J_b0, ↓b0_ite, ↓b0_ite2, b0_ite, bI_r, bV_r, b01_ite, ite_true, ite_false, rZ_b, K_l, J_long, M_in, hE2.cell hl ⟨show 0 ≤ t - 1 by omega, show t - 1 < cT W l by omega⟩, e1]
        exact tail m3 e2 e3 e4 e5 (fun _ => e6)
      · rw [if_neg h2]
        exact tail m hQ hk hb' (fun _ _ => rfl) (fun q => by omega)
    · rw [if_neg h1]
      refine ih (t + 1, m) ⟨by show 0 ≤ t + 1 ∧ t + 1 ≤ cT W l; omega, ⟨hQ, hk, hb'⟩, fun l' t' q1 q2 q3 q4 => ?_⟩ (by show cT W l - (t + 1) < cT W l - t; omega)
      change l' < l ∨ (l' = l ∧ t' < t + 1) at q3
      by_cases e : l' = l ∧ t' = t
      · rw [e.1, e.2] at q4
        exact absurd q4 h1
      · exact hp l' t' q1 q2 (by omega) q4
  · rw [if_neg h0]
    refine ⟨m, rfl, ⟨hQ, hk, hb'⟩, fun l' t' q1 q2 q3 q4 => ?_⟩
    by_cases e : l' = l
    · have q2' := q2
      rw [e] at q2'
      exact hp l' t' q1 q2 (by omega) q4
    · exact hp l' t' q1 q2 (by omega) q4
theorem M_ridesOn (hE : TmE m0 W n) (hQ : QM W n c0 k m0 m) (hk : k < m 0 40) : ∃ m', qM_ridesOn y (J (m 19 k)) (hi y TM g w m) = rV (hi y TM g w m') ∧ QM W n c0 (k + 1) m0 m' := by
  have hn := hE.1
  obtain ⟨m', e1, ⟨e2, e3, e4⟩, e5⟩ : ∃ m', qM_ridesOn y (J (m 19 k)) (hi y TM g w m) = rV (hi y TM g w m') ∧ (QM W n c0 k m0 m' ∧ k < m' 0 40 ∧ m' 19 k = m 19 k) ∧ PM W n (m 19 k) (m' 18) n 0 := by
    unfold qM_ridesOn
    refine loopI (S := Int × CT) (fun N q => qM_ridesOn_2 N y (J (m 19 k)) (J q.1) (hi y TM g w q.2)) (fun X => ∃ m', X = rV (hi y TM g w m') ∧ (QM W n c0 k m0 m' ∧ k < m' 0 40 ∧ m' 19 k = m 19 k) ∧ PM W n (m 19 k) (m' 18) n 0) (fun q => (0 ≤ q.1 ∧ q.1 ≤ n) ∧ (QM W n c0 k m0 q.2 ∧ k < q.2 0 40 ∧ q.2 19 k = m 19 k) ∧ PM W n (m 19 k) (q.2 18) q.1 0) (fun q => n - q.1) (by intro q hq; omega) (fun N q hq ih => ?_) (0, m) ⟨by show (0 : Int) ≤ 0 ∧ 0 ≤ n; omega, ⟨hQ, hk, rfl⟩, fun l' t' q1 q2 q3 q4 => by
      change l' < 0 ∨ (l' = 0 ∧ t' < 0) at q3
      omega⟩ (by show n - 0 < 20000; omega)
    obtain ⟨l, m2⟩ := q
    obtain ⟨hl, hQ2, hp⟩ := hq
    change 0 ≤ l ∧ l ≤ n at hl
    change QM W n c0 k m0 m2 ∧ k < m2 0 40 ∧ m2 19 k = m 19 k at hQ2
    change PM W n (m 19 k) (m2 18) l 0 at hp
    have hE2 := TmE_q hE hQ2.1.1
    have h6 := hE2.2.2.1
    show ∃ m', qM_ridesOn_2_b (qM_ridesOn_2 N) y (J (m 19 k)) (J l) (hi y TM g w m2) = _ ∧ _
    unfold qM_ridesOn_2_b
    simp (disch := omega) only [↓isO_M, ↓gL_H, ↓pL_H, ↓gI_M1, ↓gI_M2, ↓gI_M3, ↓gI_M4, ↓gI_M5, ↓gI_M6, ↓gI_M13, ↓gI_M22, ↓gI_M23, ↓gI_M24, ↓gI_M25, ↓gI_M27, ↓gI_M28, ↓gI_M29, ↓gI_M30, ↓gI_M31, ↓gI_M32, ↓gI_M33, ↓gI_M34, ↓gI_M35, ↓gI_M40, ↓gI_M41, ↓gI_M42, ↓gI_M43, ↓pV_M1, ↓pV_M2, ↓pV_M3, ↓pV_M4, ↓pV_M5, ↓pV_M6, ↓pV_M13, ↓pV_M22, ↓pV_M23, ↓pV_M24, ↓pV_M25, ↓pV_M27, ↓pV_M28, ↓pV_M29, ↓pV_M30, ↓pV_M31, ↓pV_M32, ↓pV_M33, ↓pV_M34, ↓pV_M35, ↓pV_M40, ↓pV_M41, ↓pV_M42, ↓pV_M43, ↓gR_M0, ↓gR_M7, ↓gR_M8, ↓gR_M9, ↓gR_M10, ↓gR_M11, ↓gR_M12, ↓gR_M14, ↓gR_M15, ↓gR_M16, ↓gR_M17, ↓gR_M18, ↓gR_M19, ↓gR_M20, ↓gR_M21, ↓gR_M36, ↓gR_M37, ↓gR_M38, ↓gR_M39, ↓rd_M1, ↓rd_M2, ↓rd_M3, ↓rd_M4, ↓rd_M5, ↓rd_M6, ↓rd_M7, ↓rd_M8, ↓rd_M9, ↓rd_M10, ↓rd_M11, ↓rd_M12, ↓rd_M13, ↓rd_M14, ↓rd_M15, ↓rd_M16, ↓rd_M17, ↓rd_M18, ↓rd_M19, ↓wr_M1, ↓wr_M2, ↓wr_M3, ↓wr_M4, ↓wr_M5, ↓wr_M6, ↓wr_M7, ↓wr_M8, ↓wr_M9, ↓wr_M10, ↓wr_M11, ↓wr_M12, ↓wr_M13, ↓wr_M14, ↓wr_M15, ↓wr_M16, ↓wr_M17, ↓wr_M18, ↓wr_M19, pL_H, pV_M1, pV_M2, pV_M3, pV_M4, pV_M5, pV_M6, pV_M13, pV_M22, pV_M23, pV_M24, pV_M25, pV_M27, pV_M28, pV_M29, pV_M30, pV_M31, pV_M32, pV_M33, pV_M34, pV_M35, pV_M40, pV_M41, pV_M42, pV_M43, rd_M1, rd_M2, rd_M3, rd_M4, rd_M5, rd_M6, rd_M7, rd_M8, rd_M9, rd_M10, rd_M11, rd_M12, rd_M13, rd_M14, rd_M15, rd_M16, rd_M17, rd_M18, rd_M19, wr_M1, wr_M2, wr_M3, wr_M4, wr_M5, wr_M6, wr_M7, wr_M8, wr_M9, wr_M10, wr_M11, wr_M12, wr_M13, wr_M14, wr_M15, wr_M16, wr_M17, wr_M18, wr_M19, J_l, J_neg, J_add, J_sub, J_mul, J_lt, J_le, J_eq, J_div2, J_rem2, J_shl1, J_orp, J_or, J_and, J_shr, J_ushr, J_max, J_min, J_abs, J_b0, ↓b0_ite, ↓b0_ite2, b0_ite, bI_r, bV_r, b01_ite, ite_true, ite_false, rZ_b, K_l, J_long, M_in, h6]
    by_cases h0 : l < n
    · rw [if_pos h0]
      obtain ⟨m3, f1, f2, f3⟩ := M_ride12 (y := y) (g := g) (w := w) (k2 := qM_ridesOn_2 N) hE ⟨hl.1, h0⟩ hQ2 hp
      rw [f1]
      exact ih (l + 1, m3) ⟨by show 0 ≤ l + 1 ∧ l + 1 ≤ n; omega, f2, f3⟩ (by show n - (l + 1) < n - l; omega)
    · rw [if_neg h0]
      refine ⟨m2, rfl, hQ2, ?_⟩
      rw [show l = n by omega] at hp
      exact hp
  refine ⟨m', e1, e2.1, ?_⟩
  obtain ⟨h1, h2, h3, h4, h5, h6, h7, h8, h9⟩ := e2.2
  refine ⟨h1, h2, h3, h4, h5, fun j j0 j1 c hc => ?_, by omega, fun hk1 j j0 j1 => ?_, h9⟩
  · by_cases e : j = k
    · rw [e] at hc ⊢
      obtain ⟨_, hcr, _⟩ := adj_in hE.2.1 hn.1 hc
      have vis : 0 ≤ m' 18 c := by
        obtain ⟨l, t, q1, q2, q3⟩ := hc
        rcases q3 with ⟨q3, q4⟩ | ⟨q3, q4⟩
        · have y := (e5 l t q1 (by omega) (by omega) (by rw [q3, e4])).2 q2.2
          rw [q4] at y; exact y
        · have y := (e5 l (t + 1) q1 (by omega) (by omega) (by rw [q3, e4])).1 (by omega)
          rw [show t + 1 - 1 = t by omega, q4] at y; exact y
      obtain ⟨i, i0, i1, i2⟩ := h4 c hcr.1 hcr.2 vis
      have y2 := h8 e3 i i0 i1
      rw [i2] at y2
      exact ⟨vis, y2⟩
    · exact h6 j j0 (by omega) c hc
  · have y1 := h8 e3 j j0 j1
    have y2 := h5 k (k + 1) h7.1 (by omega) hk1
    omega
theorem QS_end (hLG : ∀ l, 0 ≤ l → l < n → LG W l) (hn : 0 ≤ n) (h : QS W n c0 nq F Q nq) (ht : 0 ≤ t ∧ t < 1600) : SpA W n c0 t (F t) := by
  obtain ⟨h1, h2, h3, h4, h5, h6, h7, h8, h9⟩ := h
  have all : ∀ d : Nat, ∀ c, Rc W n c0 d c → (0 ≤ c ∧ c < 1600) ∧ 0 ≤ F c ∧ F c ≤ d := by
    intro d
    induction d with
    | zero =>
      intro c hR
      have : c = c0 := hR
      rw [this, h9.2]
      exact ⟨h9.1, by omega, by omega⟩
    | succ d ih =>
      intro c hR
      obtain ⟨b, b1, b2⟩ := hR
      obtain ⟨bin, bf, bd⟩ := ih b b1
      obtain ⟨j, j0, j1, j2⟩ := h4 b bin.1 bin.2 bf
      have y := h6 j j0 j1 c (by rw [j2]; exact b2)
      rw [j2] at y
      exact ⟨(adj_in hLG hn b2).2.1, y.1, by omega⟩
  rcases h1 t ht.1 ht.2 with e | e
  · exact Or.inl ⟨e, fun d hd => by have := all d t hd; omega⟩
  · exact Or.inr ⟨e.1, e.2, fun d hd => (all d t hd).2.2⟩
theorem M_ride70 (hE : TmE m0 W n) (hl : 0 ≤ l ∧ l < n) (ht : 0 ≤ t ∧ t < cT W l) (hQ : QM W n c0 0 m0 m) : ∃ m' a, qM_rides_70 LF y (J l) (J t) (J 0) (hi y TM g w m) = rI (J a) (hi y TM g w m') ∧ QF m0 m' ∧ SpA W n c0 (sc W l t) a := by
  have hn := hE.1
  refine loopI (S := Int × CT) (fun N q => qM_rides_70 N y (J l) (J t) (J q.1) (hi y TM g w q.2)) (fun X => ∃ m' a, X = rI (J a) (hi y TM g w m') ∧ QF m0 m' ∧ SpA W n c0 (sc W l t) a) (fun q => QM W n c0 q.1 m0 q.2) (fun q => 1600 - q.1) (by intro q hq; have h1 := hq.2.nb; have h2 := hq.2.2.2.2.2.2.2.1; omega) (fun N q hQ ih => ?_) (0, m) hQ (by show (1600 : Int) - 0 < 20000; omega)
  obtain ⟨k, m⟩ := q
  change QM W n c0 k m0 m at hQ
  have hE2 := TmE_q hE hQ.1
  have nb := hQ.2.nb
  have kb := hQ.2.2.2.2.2.2.2.1
  show ∃ m' a, qM_rides_70_b (qM_rides_70 N) y (J l) (J t) (J k) (hi y TM g w m) = _ ∧ _
  unfold qM_rides_70_b
  simp (disch := omega) only [↓isO_M, ↓gL_H, ↓pL_H, ↓gI_M1, ↓gI_M2, ↓gI_M3, ↓gI_M4, ↓gI_M5, ↓gI_M6, ↓gI_M13, ↓gI_M22, ↓gI_M23, ↓gI_M24, ↓gI_M25, ↓gI_M27, ↓gI_M28, ↓gI_M29, ↓gI_M30, ↓gI_M31, ↓gI_M32, ↓gI_M33, ↓gI_M34, ↓gI_M35, ↓gI_M40, ↓gI_M41, ↓gI_M42, ↓gI_M43, ↓pV_M1, ↓pV_M2, ↓pV_M3, ↓pV_M4, ↓pV_M5, ↓pV_M6, ↓pV_M13, ↓pV_M22, ↓pV_M23, ↓pV_M24, ↓pV_M25, ↓pV_M27, ↓pV_M28, ↓pV_M29, ↓pV_M30, ↓pV_M31, ↓pV_M32, ↓pV_M33, ↓pV_M34, ↓pV_M35, ↓pV_M40, ↓pV_M41, ↓pV_M42, ↓pV_M43, ↓gR_M0, ↓gR_M7, ↓gR_M8, ↓gR_M9, ↓gR_M10, ↓gR_M11, ↓gR_M12, ↓gR_M14, ↓gR_M15, ↓gR_M16, ↓gR_M17, ↓gR_M18, ↓gR_M19, ↓gR_M20, ↓gR_M21, ↓gR_M36, ↓gR_M37, ↓gR_M38, ↓gR_M39, ↓rd_M1, ↓rd_M2, ↓rd_M3, ↓rd_M4, ↓rd_M5, ↓rd_M6, ↓rd_M7, ↓rd_M8, ↓rd_M9, ↓rd_M10, ↓rd_M11, ↓rd_M12, ↓rd_M13, ↓rd_M14, ↓rd_M15, ↓rd_M16, ↓rd_M17, ↓rd_M18, ↓rd_M19, ↓wr_M1, ↓wr_M2, ↓wr_M3, ↓wr_M4, ↓wr_M5, ↓wr_M6, ↓wr_M7, ↓wr_M8, ↓wr_M9, ↓wr_M10, ↓wr_M11, ↓wr_M12, ↓wr_M13, ↓wr_M14, ↓wr_M15, ↓wr_M16, ↓wr_M17, ↓wr_M18, ↓wr_M19, pL_H, pV_M1, pV_M2, pV_M3, pV_M4, pV_M5, pV_M6, pV_M13, pV_M22, pV_M23, pV_M24, pV_M25, pV_M27, pV_M28, pV_M29, pV_M30, pV_M31, pV_M32, pV_M33, pV_M34, pV_M35, pV_M40, pV_M41, pV_M42, pV_M43, rd_M1, rd_M2, rd_M3, rd_M4, rd_M5, rd_M6, rd_M7, rd_M8, rd_M9, rd_M10, rd_M11, rd_M12, rd_M13, rd_M14, rd_M15, rd_M16, rd_M17, rd_M18, rd_M19, wr_M1, wr_M2, wr_M3, wr_M4, wr_M5, wr_M6, wr_M7, wr_M8, wr_M9, wr_M10, wr_M11, wr_M12, wr_M13, wr_M14, wr_M15, wr_M16, wr_M17, wr_M18, wr_M19, J_l, J_neg, J_add, J_sub, J_mul, J_lt, J_le, J_eq, J_div2, J_rem2, J_shl1, J_orp, J_or, J_and, J_shr, J_ushr, J_max, J_min, J_abs, J_b0, ↓b0_ite, ↓b0_ite2, b0_ite, bI_r, bV_r, b01_ite, ite_true, ite_false, rZ_b, K_l, J_long, M_in]
  by_cases h0 : k < m 0 40
  · rw [if_pos h0]
    obtain ⟨m', e1, e2⟩ := M_ridesOn (y := y) (g := g) (w := w) hE hQ h0
    simp (disch := omega) only [↓isO_M, ↓gL_H, ↓pL_H, ↓gI_M1, ↓gI_M2, ↓gI_M3, ↓gI_M4, ↓gI_M5, ↓gI_M6, ↓gI_M13, ↓gI_M22, ↓gI_M23, ↓gI_M24, ↓gI_M25, ↓gI_M27, ↓gI_M28, ↓gI_M29, ↓gI_M30, ↓gI_M31, ↓gI_M32, ↓gI_M33, ↓gI_M34, ↓gI_M35, ↓gI_M40, ↓gI_M41, ↓gI_M42, ↓gI_M43, ↓pV_M1, ↓pV_M2, ↓pV_M3, ↓pV_M4, ↓pV_M5, ↓pV_M6, ↓pV_M13, ↓pV_M22, ↓pV_M23, ↓pV_M24, ↓pV_M25, ↓pV_M27, ↓pV_M28, ↓pV_M29, ↓pV_M30, ↓pV_M31, ↓pV_M32, ↓pV_M33, ↓pV_M34, ↓pV_M35, ↓pV_M40, ↓pV_M41, ↓pV_M42, ↓pV_M43, ↓gR_M0, ↓gR_M7, ↓gR_M8, ↓gR_M9, ↓gR_M10, ↓gR_M11, ↓gR_M12, ↓gR_M14, ↓gR_M15, ↓gR_M16, ↓gR_M17, ↓gR_M18, ↓gR_M19, ↓gR_M20, ↓gR_M21, ↓gR_M36, ↓gR_M37, ↓gR_M38, ↓gR_M39, ↓rd_M1, ↓rd_M2, ↓rd_M3, ↓rd_M4, ↓rd_M5, ↓rd_M6, ↓rd_M7, ↓rd_M8, ↓rd_M9, ↓rd_M10, ↓rd_M11, ↓rd_M12, ↓rd_M13, ↓rd_M14, ↓rd_M15, ↓rd_M16, ↓rd_M17, ↓rd_M18, ↓rd_M19, ↓wr_M1, ↓wr_M2, ↓wr_M3, ↓wr_M4, ↓wr_M5, ↓wr_M6, ↓wr_M7, ↓wr_M8, ↓wr_M9, ↓wr_M10, ↓wr_M11, ↓wr_M12, ↓wr_M13, ↓wr_M14, ↓wr_M15, ↓wr_M16, ↓wr_M17, ↓wr_M18, ↓wr_M19, pL_H, pV_M1, pV_M2, pV_M3, pV_M4, pV_M5, pV_M6, pV_M13, pV_M22, pV_M23, pV_M24, pV_M25, pV_M27, pV_M28, pV_M29, pV_M30, pV_M31, pV_M32, pV_M33, pV_M34, pV_M35, pV_M40, pV_M41, pV_M42, pV_M43, rd_M1, rd_M2, rd_M3, rd_M4, rd_M5, rd_M6, rd_M7, rd_M8, rd_M9, rd_M10, rd_M11, rd_M12, rd_M13, rd_M14, rd_M15, rd_M16, rd_M17, rd_M18, rd_M19, wr_M1, wr_M2, wr_M3, wr_M4, wr_M5, wr_M6, wr_M7, wr_M8, wr_M9, wr_M10, wr_M11, wr_M12, wr_M13, wr_M14, wr_M15, wr_M16, wr_M17, wr_M18, wr_M19, J_l, J_neg, J_add, J_sub, J_mul, J_lt, J_le, J_eq, J_div2, J_rem2, J_shl1, J_orp, J_or, J_and, J_shr, J_ushr, J_max, J_min, J_abs, J_b0, ↓b0_ite, ↓b0_ite2, b0_ite, bI_r, bV_r, b01_ite, ite_true, ite_false, rZ_b, K_l, J_long, M_in, e1]
    exact ih (k + 1, m') e2 (by show 1600 - (k + 1) < 1600 - k; omega)
  · rw [if_neg h0]
    have hs := sc_in (hE.2.1 l hl.1 hl.2) ht.1 ht.2
    unfold qM_rides_96
    simp (disch := omega) only [↓isO_M, ↓gL_H, ↓pL_H, ↓gI_M1, ↓gI_M2, ↓gI_M3, ↓gI_M4, ↓gI_M5, ↓gI_M6, ↓gI_M13, ↓gI_M22, ↓gI_M23, ↓gI_M24, ↓gI_M25, ↓gI_M27, ↓gI_M28, ↓gI_M29, ↓gI_M30, ↓gI_M31, ↓gI_M32, ↓gI_M33, ↓gI_M34, ↓gI_M35, ↓gI_M40, ↓gI_M41, ↓gI_M42, ↓gI_M43, ↓pV_M1, ↓pV_M2, ↓pV_M3, ↓pV_M4, ↓pV_M5, ↓pV_M6, ↓pV_M13, ↓pV_M22, ↓pV_M23, ↓pV_M24, ↓pV_M25, ↓pV_M27, ↓pV_M28, ↓pV_M29, ↓pV_M30, ↓pV_M31, ↓pV_M32, ↓pV_M33, ↓pV_M34, ↓pV_M35, ↓pV_M40, ↓pV_M41, ↓pV_M42, ↓pV_M43, ↓gR_M0, ↓gR_M7, ↓gR_M8, ↓gR_M9, ↓gR_M10, ↓gR_M11, ↓gR_M12, ↓gR_M14, ↓gR_M15, ↓gR_M16, ↓gR_M17, ↓gR_M18, ↓gR_M19, ↓gR_M20, ↓gR_M21, ↓gR_M36, ↓gR_M37, ↓gR_M38, ↓gR_M39, ↓rd_M1, ↓rd_M2, ↓rd_M3, ↓rd_M4, ↓rd_M5, ↓rd_M6, ↓rd_M7, ↓rd_M8, ↓rd_M9, ↓rd_M10, ↓rd_M11, ↓rd_M12, ↓rd_M13, ↓rd_M14, ↓rd_M15, ↓rd_M16, ↓rd_M17, ↓rd_M18, ↓rd_M19, ↓wr_M1, ↓wr_M2, ↓wr_M3, ↓wr_M4, ↓wr_M5, ↓wr_M6, ↓wr_M7, ↓wr_M8, ↓wr_M9, ↓wr_M10, ↓wr_M11, ↓wr_M12, ↓wr_M13, ↓wr_M14, ↓wr_M15, ↓wr_M16, ↓wr_M17, ↓wr_M18, ↓wr_M19, pL_H, pV_M1, pV_M2, pV_M3, pV_M4, pV_M5, pV_M6, pV_M13, pV_M22, pV_M23, pV_M24, pV_M25, pV_M27, pV_M28, pV_M29, pV_M30, pV_M31, pV_M32, pV_M33, pV_M34, pV_M35, pV_M40, pV_M41, pV_M42, pV_M43, rd_M1, rd_M2, rd_M3, rd_M4, rd_M5, rd_M6, rd_M7, rd_M8, rd_M9, rd_M10, rd_M11, rd_M12, rd_M13, rd_M14, rd_M15, rd_M16, rd_M17, rd_M18, rd_M19, wr_M1, wr_M2, wr_M3, wr_M4, wr_M5, wr_M6, wr_M7, wr_M8, wr_M9, wr_M10, wr_M11, wr_M12, wr_M13, wr_M14, wr_M15, wr_M16, wr_M17, wr_M18, wr_M19, J_l, J_neg, J_add, J_sub, J_mul, J_lt, J_le, J_eq, J_div2, J_rem2, J_shl1, J_orp, J_or, J_and, J_shr, J_ushr, J_max, J_min, J_abs, J_b0, ↓b0_ite, ↓b0_ite2, b0_ite, bI_r, bV_r, b01_ite, ite_true, ite_false, rZ_b, K_l, J_long, M_in, hE2.cell hl ht]
    have hQ2 := hQ.2
    rw [show k = m 0 40 by omega] at hQ2
    exact ⟨m, _, rfl, hQ.1, QS_end hE.2.1 hn.1 hQ2 hs⟩
def fiM (m : CT) (c : Int) : CT := rs m 18 (cns (m 18) c.toNat (-2))
theorem fiM_s (hc : 0 ≤ c) : rs (fiM m c) 18 (ru (fiM m c 18) c (-2)) = fiM m (c + 1) := by
  unfold fiM
  rw [rs_rs, rs_same]
  congr 1
  funext j
  unfold ru cns
  by_cases e : j = c
  · rw [if_pos e, if_pos (by omega)]
  · rw [if_neg e]
    by_cases e2 : 0 ≤ j ∧ j < c
    · rw [if_pos (by omega), if_pos (by omega)]
    · rw [if_neg (by omega), if_neg (by omega)]
theorem M_ride28 {x1 x2 x3 x4 : Int32} : qM_rides_28 LF y x1 x2 x3 x4 (J 0) (hi y TM g w m) = qM_rides_51 y x1 x2 x3 x4 (hi y TM g w (fiM m 1600)) := by
  have key := loopI (S := Int) (fun N c => qM_rides_28 N y x1 x2 x3 x4 (J c) (hi y TM g w (fiM m c))) (fun X => X = qM_rides_51 y x1 x2 x3 x4 (hi y TM g w (fiM m 1600))) (fun c => 0 ≤ c ∧ c ≤ 1600) (fun c => 1600 - c) (by intro q hq; omega) (fun N c hc ih => by
    show qM_rides_28_b (qM_rides_28 N) y x1 x2 x3 x4 (J c) (hi y TM g w (fiM m c)) = _
    unfold qM_rides_28_b
    simp (disch := omega) only [↓isO_M, ↓gL_H, ↓pL_H, ↓gI_M1, ↓gI_M2, ↓gI_M3, ↓gI_M4, ↓gI_M5, ↓gI_M6, ↓gI_M13, ↓gI_M22, ↓gI_M23, ↓gI_M24, ↓gI_M25, ↓gI_M27, ↓gI_M28, ↓gI_M29, ↓gI_M30, ↓gI_M31, ↓gI_M32, ↓gI_M33, ↓gI_M34, ↓gI_M35, ↓gI_M40, ↓gI_M41, ↓gI_M42, ↓gI_M43, ↓pV_M1, ↓pV_M2, ↓pV_M3, ↓pV_M4, ↓pV_M5, ↓pV_M6, ↓pV_M13, ↓pV_M22, ↓pV_M23, ↓pV_M24, ↓pV_M25, ↓pV_M27, ↓pV_M28, ↓pV_M29, ↓pV_M30, ↓pV_M31, ↓pV_M32, ↓pV_M33, ↓pV_M34, ↓pV_M35, ↓pV_M40, ↓pV_M41, ↓pV_M42, ↓pV_M43, ↓gR_M0, ↓gR_M7, ↓gR_M8, ↓gR_M9, ↓gR_M10, ↓gR_M11, ↓gR_M12, ↓gR_M14, ↓gR_M15, ↓gR_M16, ↓gR_M17, ↓gR_M18, ↓gR_M19, ↓gR_M20, ↓gR_M21, ↓gR_M36, ↓gR_M37, ↓gR_M38, ↓gR_M39, ↓rd_M1, ↓rd_M2, ↓rd_M3, ↓rd_M4, ↓rd_M5, ↓rd_M6, ↓rd_M7, ↓rd_M8, ↓rd_M9, ↓rd_M10, ↓rd_M11, ↓rd_M12, ↓rd_M13, ↓rd_M14, ↓rd_M15, ↓rd_M16, ↓rd_M17, ↓rd_M18, ↓rd_M19, ↓wr_M1, ↓wr_M2, ↓wr_M3, ↓wr_M4, ↓wr_M5, ↓wr_M6, ↓wr_M7, ↓wr_M8, ↓wr_M9, ↓wr_M10, ↓wr_M11, ↓wr_M12, ↓wr_M13, ↓wr_M14, ↓wr_M15, ↓wr_M16, ↓wr_M17, ↓wr_M18, ↓wr_M19, pL_H, pV_M1, pV_M2, pV_M3, pV_M4, pV_M5, pV_M6, pV_M13, pV_M22, pV_M23, pV_M24, pV_M25, pV_M27, pV_M28, pV_M29, pV_M30, pV_M31, pV_M32, pV_M33, pV_M34, pV_M35, pV_M40, pV_M41, pV_M42, pV_M43, rd_M1, rd_M2, rd_M3, rd_M4, rd_M5, rd_M6, rd_M7, rd_M8, rd_M9, rd_M10, rd_M11, rd_M12, rd_M13, rd_M14, rd_M15, rd_M16, rd_M17, rd_M18, rd_M19, wr_M1, wr_M2, wr_M3, wr_M4, wr_M5, wr_M6, wr_M7, wr_M8, wr_M9, wr_M10, wr_M11, wr_M12, wr_M13, wr_M14, wr_M15, wr_M16, wr_M17, wr_M18, wr_M19, J_l, J_neg, J_add, J_sub, J_mul, J_lt, J_le, J_eq, J_div2, J_rem2, J_shl1, J_orp, J_or, J_and, J_shr, J_ushr, J_max, J_min, J_abs, J_b0, ↓b0_ite, ↓b0_ite2, b0_ite, bI_r, bV_r, b01_ite, ite_true, ite_false, rZ_b, K_l, J_long, M_in]
    by_cases h0 : c < 1600
    · rw [if_pos h0]
      simp (disch := omega) only [↓isO_M, ↓gL_H, ↓pL_H, ↓gI_M1, ↓gI_M2, ↓gI_M3, ↓gI_M4, ↓gI_M5, ↓gI_M6, ↓gI_M13, ↓gI_M22, ↓gI_M23, ↓gI_M24, ↓gI_M25, ↓gI_M27, ↓gI_M28, ↓gI_M29, ↓gI_M30, ↓gI_M31, ↓gI_M32, ↓gI_M33, ↓gI_M34, ↓gI_M35, ↓gI_M40, ↓gI_M41, ↓gI_M42, ↓gI_M43, ↓pV_M1, ↓pV_M2, ↓pV_M3, ↓pV_M4, ↓pV_M5, ↓pV_M6, ↓pV_M13, ↓pV_M22, ↓pV_M23, ↓pV_M24, ↓pV_M25, ↓pV_M27, ↓pV_M28, ↓pV_M29, ↓pV_M30, ↓pV_M31, ↓pV_M32, ↓pV_M33, ↓pV_M34, ↓pV_M35, ↓pV_M40, ↓pV_M41, ↓pV_M42, ↓pV_M43, ↓gR_M0, ↓gR_M7, ↓gR_M8, ↓gR_M9, ↓gR_M10, ↓gR_M11, ↓gR_M12, ↓gR_M14, ↓gR_M15, ↓gR_M16, ↓gR_M17, ↓gR_M18, ↓gR_M19, ↓gR_M20, ↓gR_M21, ↓gR_M36, ↓gR_M37, ↓gR_M38, ↓gR_M39, ↓rd_M1, ↓rd_M2, ↓rd_M3, ↓rd_M4, ↓rd_M5, ↓rd_M6, ↓rd_M7, ↓rd_M8, ↓rd_M9, ↓rd_M10, ↓rd_M11, ↓rd_M12, ↓rd_M13, ↓rd_M14, ↓rd_M15, ↓rd_M16, ↓rd_M17, ↓rd_M18, ↓rd_M19, ↓wr_M1, ↓wr_M2, ↓wr_M3, ↓wr_M4, ↓wr_M5, ↓wr_M6, ↓wr_M7, ↓wr_M8, ↓wr_M9, ↓wr_M10, ↓wr_M11, ↓wr_M12, ↓wr_M13, ↓wr_M14, ↓wr_M15, ↓wr_M16, ↓wr_M17, ↓wr_M18, ↓wr_M19, pL_H, pV_M1, pV_M2, pV_M3, pV_M4, pV_M5, pV_M6, pV_M13, pV_M22, pV_M23, pV_M24, pV_M25, pV_M27, pV_M28, pV_M29, pV_M30, pV_M31, pV_M32, pV_M33, pV_M34, pV_M35, pV_M40, pV_M41, pV_M42, pV_M43, rd_M1, rd_M2, rd_M3, rd_M4, rd_M5, rd_M6, rd_M7, rd_M8, rd_M9, rd_M10, rd_M11, rd_M12, rd_M13, rd_M14, rd_M15, rd_M16, rd_M17, rd_M18, rd_M19, wr_M1, wr_M2, wr_M3, wr_M4, wr_M5, wr_M6, wr_M7, wr_M8, wr_M9, wr_M10, wr_M11, wr_M12, wr_M13, wr_M14, wr_M15, wr_M16, wr_M17, wr_M18, wr_M19, J_l, J_neg, J_add, J_sub, J_mul, J_lt, J_le, J_eq, J_div2, J_rem2, J_shl1, J_orp, J_or, J_and, J_shr, J_ushr, J_max, J_min, J_abs, J_b0, ↓b0_ite, ↓b0_ite2, b0_ite, bI_r, bV_r, b01_ite, ite_true, ite_false, rZ_b, K_l, J_long, M_in, fiM_s hc.1]
      exact ih (c + 1) (by omega) (by omega)
    · rw [if_neg h0, show c = 1600 by omega]) 0 (by omega) (by omega)
  have e0 : fiM m 0 = m := by
    unfold fiM
    rw [show cns (m 18) (0 : Int).toNat (-2) = m 18 from funext fun j => by unfold cns; rw [if_neg (by omega)]]
    exact rs_self
  rw [e0] at key
  exact key
theorem M_ride51 (hE : TmE m W n) (hi0 : 0 ≤ i ∧ i < n) (hj : 0 ≤ j ∧ j < cT W i) (hl : 0 ≤ l ∧ l < n) (ht : 0 ≤ t ∧ t < cT W l) : ∃ m' a, qM_rides_51 y (J i) (J j) (J l) (J t) (hi y TM g w (fiM m 1600)) = rI (J a) (hi y TM g w m') ∧ QF m m' ∧ SpA W n (sc W i j) (sc W l t) a := by
  have hn := hE.1
  have hc := sc_in (hE.2.1 i hi0.1 hi0.2) hj.1 hj.2
  -- the state with an empty queue
  have hq0 : QF m (rs (fiM m 1600) 0 (ru (fiM m 1600 0) 40 0)) := by
    refine ⟨fun o o0 o1 o2 => ?_, fun q hq => ?_⟩
    · unfold fiM
      rw [rs_ne o0, rs_ne o1]
    · unfold fiM
      rw [rs_same, ru_ne hq, rs_ne (by decide)]
  have hE2 := TmE_q hE hq0
  generalize hm2 : rs (fiM m 1600) 0 (ru (fiM m 1600 0) 40 0) = m2 at hq0 hE2
  have f18 : ∀ c, 0 ≤ c → c < 1600 → m2 18 c = -2 := fun c c0 c1 => by
    rw [← hm2]
    unfold fiM
    rw [rs_ne (by decide), rs_same]
    exact cns_in ⟨c0, c1⟩
  have f40 : m2 0 40 = 0 := by rw [← hm2, rs_same, ru_same]
  have e1 := M_reaches1 (y := y) (g := g) (w := w) (m := m2) (c := sc W i j) (v := 0) hc (by rw [f18 _ hc.1 hc.2]; omega) (by rw [f40]; omega) (by rw [f18 _ hc.1 hc.2]; omega)
  obtain ⟨r1, r2, r3⟩ := rcM_r (m := m2) (c := sc W i j) (v := 0)
  have hV0 : Vn (m2 18) = 0 := cnt_zero (by omega) fun x x0 x1 q => by rw [f18 x x0 x1] at q; omega
  have hV : Vn (ru (m2 18) (sc W i j) 0) = Vn (m2 18) + 1 := cnt_ru hc (by rw [f18 _ hc.1 hc.2]; omega) (by omega)
  have hQ : QM W n (sc W i j) 0 m (rcM m2 (sc W i j) 0) := by
    refine ⟨QF_rc hq0, ?_⟩
    rw [r1, r2, r3, f40]
    refine ⟨fun c c0 c1 => ?_, by omega, fun q q0 q1 => ?_, fun c c0 c1 c2 => ?_, fun a b a0 ab b1 => ?_, fun q q0 q1 => by omega, by omega, fun _ q q0 q1 => ?_, hc, ru_same⟩
    · by_cases e : c = sc W i j
      · rw [e, ru_same]
        exact Or.inr ⟨by omega, rfl⟩
      · rw [ru_ne e]
        exact Or.inl (f18 c c0 c1)
    · rw [show q = 0 by omega, ru_same (q := m2 19), ru_same]
      exact ⟨hc, by omega, by omega⟩
    · by_cases e : c = sc W i j
      · exact ⟨0, by omega, by omega, by rw [ru_same, e]⟩
      · rw [ru_ne e, f18 c c0 c1] at c2
        omega
    · rw [show a = 0 by omega, show b = 0 by omega]
      exact Int.le_refl _
    · rw [show q = 0 by omega]
      omega
  obtain ⟨m', a, e2, e3, e4⟩ := M_ride70 (y := y) (g := g) (w := w) hE hl ht hQ
  refine ⟨m', a, ?_, e3, e4⟩
  unfold qM_rides_51
  simp (disch := omega) only [↓isO_M, ↓gL_H, ↓pL_H, ↓gI_M1, ↓gI_M2, ↓gI_M3, ↓gI_M4, ↓gI_M5, ↓gI_M6, ↓gI_M13, ↓gI_M22, ↓gI_M23, ↓gI_M24, ↓gI_M25, ↓gI_M27, ↓gI_M28, ↓gI_M29, ↓gI_M30, ↓gI_M31, ↓gI_M32, ↓gI_M33, ↓gI_M34, ↓gI_M35, ↓gI_M40, ↓gI_M41, ↓gI_M42, ↓gI_M43, ↓pV_M1, ↓pV_M2, ↓pV_M3, ↓pV_M4, ↓pV_M5, ↓pV_M6, ↓pV_M13, ↓pV_M22, ↓pV_M23, ↓pV_M24, ↓pV_M25, ↓pV_M27, ↓pV_M28, ↓pV_M29, ↓pV_M30, ↓pV_M31, ↓pV_M32, ↓pV_M33, ↓pV_M34, ↓pV_M35, ↓pV_M40, ↓pV_M41, ↓pV_M42, ↓pV_M43, ↓gR_M0, ↓gR_M7, ↓gR_M8, ↓gR_M9, ↓gR_M10, ↓gR_M11, ↓gR_M12, ↓gR_M14, ↓gR_M15, ↓gR_M16, ↓gR_M17, ↓gR_M18, ↓gR_M19, ↓gR_M20, ↓gR_M21, ↓gR_M36, ↓gR_M37, ↓gR_M38, ↓gR_M39, ↓rd_M1, ↓rd_M2, ↓rd_M3, ↓rd_M4, ↓rd_M5, ↓rd_M6, ↓rd_M7, ↓rd_M8, ↓rd_M9, ↓rd_M10, ↓rd_M11, ↓rd_M12, ↓rd_M13, ↓rd_M14, ↓rd_M15, ↓rd_M16, ↓rd_M17, ↓rd_M18, ↓rd_M19, ↓wr_M1, ↓wr_M2, ↓wr_M3, ↓wr_M4, ↓wr_M5, ↓wr_M6, ↓wr_M7, ↓wr_M8, ↓wr_M9, ↓wr_M10, ↓wr_M11, ↓wr_M12, ↓wr_M13, ↓wr_M14, ↓wr_M15, ↓wr_M16, ↓wr_M17, ↓wr_M18, ↓wr_M19, pL_H, pV_M1, pV_M2, pV_M3, pV_M4, pV_M5, pV_M6, pV_M13, pV_M22, pV_M23, pV_M24, pV_M25, pV_M27, pV_M28, pV_M29, pV_M30, pV_M31, pV_M32, pV_M33, pV_M34, pV_M35, pV_M40, pV_M41, pV_M42, pV_M43, rd_M1, rd_M2, rd_M3, rd_M4, rd_M5, rd_M6, rd_M7, rd_M8, rd_M9, rd_M10, rd_M11, rd_M12, rd_M13, rd_M14, rd_M15, rd_M16, rd_M17, rd_M18, rd_M19, wr_M1, wr_M2, wr_M3, wr_M4, wr_M5, wr_M6, wr_M7, wr_M8, wr_M9, wr_M10, wr_M11, wr_M12, wr_M13, wr_M14, wr_M15, wr_M16, wr_M17, wr_M18, wr_M19, J_l, J_neg, J_add, J_sub, J_mul, J_lt, J_le, J_eq, J_div2, J_rem2, J_shl1, J_orp, J_or, J_and, J_shr, J_ushr, J_max, J_min, J_abs, J_b0, ↓b0_ite, ↓b0_ite2, b0_ite, bI_r, bV_r, b01_ite, ite_true, ite_false, rZ_b, K_l, J_long, M_in, hm2, hE2.cell hi0 hj, e1, e2]
theorem B_rides (hI : Inv s m) (hl : -2147483648 ≤ l ∧ l < 2147483648) (ht : -2147483648 ≤ t ∧ t < 2147483648) (hj : -2147483648 ≤ j ∧ j < 2147483648) (hp : -2147483648 ≤ p ∧ p < 2147483648) : Both (qD_rides z (J l) (J t) (J j) (J p) (hi z TD g w s)) (qM_rides y (J l) (J t) (J j) (J p) (hi y TM g' w' m)) z y g g' w w' := by
  have hIk := hI
  obtain ⟨hT, hE, ⟨hH, hNm, hP, row, hB, hO⟩, hS, hHi⟩ := hI
  have hn := hH.2.2.2
  have hLB : ∀ l, 0 ≤ l → l < m 0 6 → LB (m 3) l := fun l a b => (hP.1.1 l a b).1
  have hz := Bsz_of hH hP.1
  have hLI := LabI_of hP hB hO
  obtain ⟨m1, e1, l1⟩ := M_lays (y := y) (g := g') (w := w') (m := m) hH rfl rfl hP.1
  have hLM := LabM_of l1 hP.1.2.1 rfl
  have hk1 := KeepM_laid l1
  unfold qD_rides qM_rides
  simp (disch := omega) only [↓gR_D0, ↓gR_D1, ↓gR_D2, ↓gR_D3, ↓gR_D4, ↓gR_D5, ↓gR_D6, ↓gR_D7, ↓gR_D8, ↓gR_D9, ↓gR_D10, ↓gI_D11, ↓pV_D11, ↓isO_D, ↓gI_T0, ↓pV_T0, ↓gR_T1, ↓isO_T, ↓rd_T2, ↓wr_T2, ↓gI_U0, ↓pV_U0, ↓gR_U1, ↓isO_U, ↓rd_U2, ↓wr_U2, ↓gI_Ps0, ↓pV_Ps0, ↓gI_Ps1, ↓pV_Ps1, ↓gI_Ps2, ↓pV_Ps2, ↓gI_Ps3, ↓pV_Ps3, ↓gI_Ps4, ↓pV_Ps4, ↓isO_Ps, ↓gI_N0, ↓pV_N0, ↓gI_N1, ↓pV_N1, ↓gI_N2, ↓pV_N2, ↓gI_N3, ↓pV_N3, ↓gR_N4, ↓gR_N5, ↓isO_N, ↓rd_NL, ↓gI_NB0, ↓pV_NB0, ↓gR_NB1, ↓gR_NB2, ↓isO_NB, ↓rd_NC, ↓wr_NC, ↓ln_NC, ↓rd_NP, ↓wr_NP, ↓ln_NP, ↓gI_V0, ↓pV_V0, ↓gI_V1, ↓pV_V1, ↓gI_V2, ↓pV_V2, ↓gI_V3, ↓pV_V3, ↓gR_V4, ↓gR_V5, ↓isO_V, ↓rd_VL, ↓gI_VB0, ↓pV_VB0, ↓gR_VB1, ↓gR_VB2, ↓isO_VB, ↓rd_VC, ↓wr_VC, ↓ln_VC, ↓rd_VP, ↓wr_VP, ↓ln_VP, ↓rd_SL, ↓rd_KP, ↓wr_KP, ↓gI_H0, ↓pV_H0, ↓gI_H1, ↓pV_H1, ↓gR_H2, ↓isO_H, ↓rd_HP, ↓gI_B0, ↓pV_B0, ↓gI_B1, ↓pV_B1, ↓gR_B2, ↓gR_B3, ↓gR_B4, ↓gR_B5, ↓gR_B6, ↓gR_B7, ↓gR_B8, ↓isO_B, ↓rd_B301, ↓wr_B301, ↓ln_B301, ↓rd_B302, ↓wr_B302, ↓ln_B302, ↓rd_B303, ↓wr_B303, ↓ln_B303, ↓rd_B304, ↓wr_B304, ↓ln_B304, ↓rd_B305, ↓wr_B305, ↓ln_B305, ↓rd_B306, ↓wr_B306, ↓ln_B306, ↓rd_B307, ↓wr_B307, ↓ln_B307, ↓gR_Tv, ↓isO_Tv, ↓rd_Tv9, ↓wr_Tv9, ↓ln_Tv9, pV_D11, pV_T0, rd_T2, wr_T2, pV_U0, rd_U2, wr_U2, pV_Ps0, pV_Ps1, pV_Ps2, pV_Ps3, pV_Ps4, pV_N0, pV_N1, pV_N2, pV_N3, rd_NL, pV_NB0, rd_NC, wr_NC, rd_NP, wr_NP, pV_V0, pV_V1, pV_V2, pV_V3, rd_VL, pV_VB0, rd_VC, wr_VC, rd_VP, wr_VP, rd_SL, rd_KP, wr_KP, pV_H0, pV_H1, rd_HP, pV_B0, pV_B1, rd_B301, wr_B301, rd_B302, wr_B302, rd_B303, wr_B303, rd_B304, wr_B304, rd_B305, wr_B305, rd_B306, wr_B306, rd_B307, wr_B307, rd_Tv9, wr_Tv9, ↓isO_M, ↓gL_H, ↓pL_H, ↓gI_M1, ↓gI_M2, ↓gI_M3, ↓gI_M4, ↓gI_M5, ↓gI_M6, ↓gI_M13, ↓gI_M22, ↓gI_M23, ↓gI_M24, ↓gI_M25, ↓gI_M27, ↓gI_M28, ↓gI_M29, ↓gI_M30, ↓gI_M31, ↓gI_M32, ↓gI_M33, ↓gI_M34, ↓gI_M35, ↓gI_M40, ↓gI_M41, ↓gI_M42, ↓gI_M43, ↓pV_M1, ↓pV_M2, ↓pV_M3, ↓pV_M4, ↓pV_M5, ↓pV_M6, ↓pV_M13, ↓pV_M22, ↓pV_M23, ↓pV_M24, ↓pV_M25, ↓pV_M27, ↓pV_M28, ↓pV_M29, ↓pV_M30, ↓pV_M31, ↓pV_M32, ↓pV_M33, ↓pV_M34, ↓pV_M35, ↓pV_M40, ↓pV_M41, ↓pV_M42, ↓pV_M43, ↓gR_M0, ↓gR_M7, ↓gR_M8, ↓gR_M9, ↓gR_M10, ↓gR_M11, ↓gR_M12, ↓gR_M14, ↓gR_M15, ↓gR_M16, ↓gR_M17, ↓gR_M18, ↓gR_M19, ↓gR_M20, ↓gR_M21, ↓gR_M36, ↓gR_M37, ↓gR_M38, ↓gR_M39, ↓rd_M1, ↓rd_M2, ↓rd_M3, ↓rd_M4, ↓rd_M5, ↓rd_M6, ↓rd_M7, ↓rd_M8, ↓rd_M9, ↓rd_M10, ↓rd_M11, ↓rd_M12, ↓rd_M13, ↓rd_M14, ↓rd_M15, ↓rd_M16, ↓rd_M17, ↓rd_M18, ↓rd_M19, ↓wr_M1, ↓wr_M2, ↓wr_M3, ↓wr_M4, ↓wr_M5, ↓wr_M6, ↓wr_M7, ↓wr_M8, ↓wr_M9, ↓wr_M10, ↓wr_M11, ↓wr_M12, ↓wr_M13, ↓wr_M14, ↓wr_M15, ↓wr_M16, ↓wr_M17, ↓wr_M18, ↓wr_M19, pL_H, pV_M1, pV_M2, pV_M3, pV_M4, pV_M5, pV_M6, pV_M13, pV_M22, pV_M23, pV_M24, pV_M25, pV_M27, pV_M28, pV_M29, pV_M30, pV_M31, pV_M32, pV_M33, pV_M34, pV_M35, pV_M40, pV_M41, pV_M42, pV_M43, rd_M1, rd_M2, rd_M3, rd_M4, rd_M5, rd_M6, rd_M7, rd_M8, rd_M9, rd_M10, rd_M11, rd_M12, rd_M13, rd_M14, rd_M15, rd_M16, rd_M17, rd_M18, rd_M19, wr_M1, wr_M2, wr_M3, wr_M4, wr_M5, wr_M6, wr_M7, wr_M8, wr_M9, wr_M10, wr_M11, wr_M12, wr_M13, wr_M14, wr_M15, wr_M16, wr_M17, wr_M18, wr_M19, J_l, J_neg, J_add, J_sub, J_mul, J_lt, J_le, J_eq, J_div2, J_rem2, J_shl1, J_orp, J_or, J_and, J_shr, J_ushr, J_max, J_min, J_abs, J_b0, ↓b0_ite, ↓b0_ite2, b0_ite, bI_r, bV_r, b01_ite, ite_true, ite_false, rZ_b, K_l, J_long, M_in, D_isStation hP.2 hn hLB hl ht, M_isStation rfl rfl hn hLB hl ht]
  by_cases h1 : (0 ≤ l ∧ l < m 0 6) ∧ 0 ≤ t ∧ t < cT (m 3) l
  · rw [if_pos h1, if_pos h1]
    simp (disch := omega) only [↓gR_D0, ↓gR_D1, ↓gR_D2, ↓gR_D3, ↓gR_D4, ↓gR_D5, ↓gR_D6, ↓gR_D7, ↓gR_D8, ↓gR_D9, ↓gR_D10, ↓gI_D11, ↓pV_D11, ↓isO_D, ↓gI_T0, ↓pV_T0, ↓gR_T1, ↓isO_T, ↓rd_T2, ↓wr_T2, ↓gI_U0, ↓pV_U0, ↓gR_U1, ↓isO_U, ↓rd_U2, ↓wr_U2, ↓gI_Ps0, ↓pV_Ps0, ↓gI_Ps1, ↓pV_Ps1, ↓gI_Ps2, ↓pV_Ps2, ↓gI_Ps3, ↓pV_Ps3, ↓gI_Ps4, ↓pV_Ps4, ↓isO_Ps, ↓gI_N0, ↓pV_N0, ↓gI_N1, ↓pV_N1, ↓gI_N2, ↓pV_N2, ↓gI_N3, ↓pV_N3, ↓gR_N4, ↓gR_N5, ↓isO_N, ↓rd_NL, ↓gI_NB0, ↓pV_NB0, ↓gR_NB1, ↓gR_NB2, ↓isO_NB, ↓rd_NC, ↓wr_NC, ↓ln_NC, ↓rd_NP, ↓wr_NP, ↓ln_NP, ↓gI_V0, ↓pV_V0, ↓gI_V1, ↓pV_V1, ↓gI_V2, ↓pV_V2, ↓gI_V3, ↓pV_V3, ↓gR_V4, ↓gR_V5, ↓isO_V, ↓rd_VL, ↓gI_VB0, ↓pV_VB0, ↓gR_VB1, ↓gR_VB2, ↓isO_VB, ↓rd_VC, ↓wr_VC, ↓ln_VC, ↓rd_VP, ↓wr_VP, ↓ln_VP, ↓rd_SL, ↓rd_KP, ↓wr_KP, ↓gI_H0, ↓pV_H0, ↓gI_H1, ↓pV_H1, ↓gR_H2, ↓isO_H, ↓rd_HP, ↓gI_B0, ↓pV_B0, ↓gI_B1, ↓pV_B1, ↓gR_B2, ↓gR_B3, ↓gR_B4, ↓gR_B5, ↓gR_B6, ↓gR_B7, ↓gR_B8, ↓isO_B, ↓rd_B301, ↓wr_B301, ↓ln_B301, ↓rd_B302, ↓wr_B302, ↓ln_B302, ↓rd_B303, ↓wr_B303, ↓ln_B303, ↓rd_B304, ↓wr_B304, ↓ln_B304, ↓rd_B305, ↓wr_B305, ↓ln_B305, ↓rd_B306, ↓wr_B306, ↓ln_B306, ↓rd_B307, ↓wr_B307, ↓ln_B307, ↓gR_Tv, ↓isO_Tv, ↓rd_Tv9, ↓wr_Tv9, ↓ln_Tv9, pV_D11, pV_T0, rd_T2, wr_T2, pV_U0, rd_U2, wr_U2, pV_Ps0, pV_Ps1, pV_Ps2, pV_Ps3, pV_Ps4, pV_N0, pV_N1, pV_N2, pV_N3, rd_NL, pV_NB0, rd_NC, wr_NC, rd_NP, wr_NP, pV_V0, pV_V1, pV_V2, pV_V3, rd_VL, pV_VB0, rd_VC, wr_VC, rd_VP, wr_VP, rd_SL, rd_KP, wr_KP, pV_H0, pV_H1, rd_HP, pV_B0, pV_B1, rd_B301, wr_B301, rd_B302, wr_B302, rd_B303, wr_B303, rd_B304, wr_B304, rd_B305, wr_B305, rd_B306, wr_B306, rd_B307, wr_B307, rd_Tv9, wr_Tv9, ↓isO_M, ↓gL_H, ↓pL_H, ↓gI_M1, ↓gI_M2, ↓gI_M3, ↓gI_M4, ↓gI_M5, ↓gI_M6, ↓gI_M13, ↓gI_M22, ↓gI_M23, ↓gI_M24, ↓gI_M25, ↓gI_M27, ↓gI_M28, ↓gI_M29, ↓gI_M30, ↓gI_M31, ↓gI_M32, ↓gI_M33, ↓gI_M34, ↓gI_M35, ↓gI_M40, ↓gI_M41, ↓gI_M42, ↓gI_M43, ↓pV_M1, ↓pV_M2, ↓pV_M3, ↓pV_M4, ↓pV_M5, ↓pV_M6, ↓pV_M13, ↓pV_M22, ↓pV_M23, ↓pV_M24, ↓pV_M25, ↓pV_M27, ↓pV_M28, ↓pV_M29, ↓pV_M30, ↓pV_M31, ↓pV_M32, ↓pV_M33, ↓pV_M34, ↓pV_M35, ↓pV_M40, ↓pV_M41, ↓pV_M42, ↓pV_M43, ↓gR_M0, ↓gR_M7, ↓gR_M8, ↓gR_M9, ↓gR_M10, ↓gR_M11, ↓gR_M12, ↓gR_M14, ↓gR_M15, ↓gR_M16, ↓gR_M17, ↓gR_M18, ↓gR_M19, ↓gR_M20, ↓gR_M21, ↓gR_M36, ↓gR_M37, ↓gR_M38, ↓gR_M39, ↓rd_M1, ↓rd_M2, ↓rd_M3, ↓rd_M4, ↓rd_M5, ↓rd_M6, ↓rd_M7, ↓rd_M8, ↓rd_M9, ↓rd_M10, ↓rd_M11, ↓rd_M12, ↓rd_M13, ↓rd_M14, ↓rd_M15, ↓rd_M16, ↓rd_M17, ↓rd_M18, ↓rd_M19, ↓wr_M1, ↓wr_M2, ↓wr_M3, ↓wr_M4, ↓wr_M5, ↓wr_M6, ↓wr_M7, ↓wr_M8, ↓wr_M9, ↓wr_M10, ↓wr_M11, ↓wr_M12, ↓wr_M13, ↓wr_M14, ↓wr_M15, ↓wr_M16, ↓wr_M17, ↓wr_M18, ↓wr_M19, pL_H, pV_M1, pV_M2, pV_M3, pV_M4, pV_M5, pV_M6, pV_M13, pV_M22, pV_M23, pV_M24, pV_M25, pV_M27, pV_M28, pV_M29, pV_M30, pV_M31, pV_M32, pV_M33, pV_M34, pV_M35, pV_M40, pV_M41, pV_M42, pV_M43, rd_M1, rd_M2, rd_M3, rd_M4, rd_M5, rd_M6, rd_M7, rd_M8, rd_M9, rd_M10, rd_M11, rd_M12, rd_M13, rd_M14, rd_M15, rd_M16, rd_M17, rd_M18, rd_M19, wr_M1, wr_M2, wr_M3, wr_M4, wr_M5, wr_M6, wr_M7, wr_M8, wr_M9, wr_M10, wr_M11, wr_M12, wr_M13, wr_M14, wr_M15, wr_M16, wr_M17, wr_M18, wr_M19, J_l, J_neg, J_add, J_sub, J_mul, J_lt, J_le, J_eq, J_div2, J_rem2, J_shl1, J_orp, J_or, J_and, J_shr, J_ushr, J_max, J_min, J_abs, J_b0, ↓b0_ite, ↓b0_ite2, b0_ite, bI_r, bV_r, b01_ite, ite_true, ite_false, rZ_b, K_l, J_long, M_in, D_isStation hP.2 hn hLB hj hp, M_isStation rfl rfl hn hLB hj hp]
    by_cases h2 : (0 ≤ j ∧ j < m 0 6) ∧ 0 ≤ p ∧ p < cT (m 3) j
    · rw [if_pos h2, if_pos h2]
      have hc := sc_in (hP.1.1 l h1.1.1 h1.1.2) h1.2.1 h1.2.2
      have hpl := sc_place hLB h1.1 h1.2
      have x1 := C_stationCell (z := z) (g := g) (w := w) hB.2.1 hn hLB h1.1 h1.2
      have hTv : TvE s (m 3) (m 0 6) := ⟨hn, hP.1.1, hP.2.2.2.2.1, fun l a b => (hP.2.2.2.2.2.1 l a b).1, hB.2.1⟩
      have hTm : TmE m1 (m 3) (m 0 6) := ⟨hn, hP.1.1, by rw [l1.f0], l1.fo (by decide), l1.2.1⟩
      obtain ⟨q', a, c1, c2⟩ := C_leastRides (z := z) (g := g) (w := w) hTv h2.1 h2.2 hc hpl
      obtain ⟨m2, a2, d1, d2, d3⟩ := M_ride51 (y := y) (g := g') (w := w') hTm h1.1 h1.2 h2.1 h2.2
      rw [SpA_uniq d3 c2] at d1
      simp (disch := omega) only [↓gR_D0, ↓gR_D1, ↓gR_D2, ↓gR_D3, ↓gR_D4, ↓gR_D5, ↓gR_D6, ↓gR_D7, ↓gR_D8, ↓gR_D9, ↓gR_D10, ↓gI_D11, ↓pV_D11, ↓isO_D, ↓gI_T0, ↓pV_T0, ↓gR_T1, ↓isO_T, ↓rd_T2, ↓wr_T2, ↓gI_U0, ↓pV_U0, ↓gR_U1, ↓isO_U, ↓rd_U2, ↓wr_U2, ↓gI_Ps0, ↓pV_Ps0, ↓gI_Ps1, ↓pV_Ps1, ↓gI_Ps2, ↓pV_Ps2, ↓gI_Ps3, ↓pV_Ps3, ↓gI_Ps4, ↓pV_Ps4, ↓isO_Ps, ↓gI_N0, ↓pV_N0, ↓gI_N1, ↓pV_N1, ↓gI_N2, ↓pV_N2, ↓gI_N3, ↓pV_N3, ↓gR_N4, ↓gR_N5, ↓isO_N, ↓rd_NL, ↓gI_NB0, ↓pV_NB0, ↓gR_NB1, ↓gR_NB2, ↓isO_NB, ↓rd_NC, ↓wr_NC, ↓ln_NC, ↓rd_NP, ↓wr_NP, ↓ln_NP, ↓gI_V0, ↓pV_V0, ↓gI_V1, ↓pV_V1, ↓gI_V2, ↓pV_V2, ↓gI_V3, ↓pV_V3, ↓gR_V4, ↓gR_V5, ↓isO_V, ↓rd_VL, ↓gI_VB0, ↓pV_VB0, ↓gR_VB1, ↓gR_VB2, ↓isO_VB, ↓rd_VC, ↓wr_VC, ↓ln_VC, ↓rd_VP, ↓wr_VP, ↓ln_VP, ↓rd_SL, ↓rd_KP, ↓wr_KP, ↓gI_H0, ↓pV_H0, ↓gI_H1, ↓pV_H1, ↓gR_H2, ↓isO_H, ↓rd_HP, ↓gI_B0, ↓pV_B0, ↓gI_B1, ↓pV_B1, ↓gR_B2, ↓gR_B3, ↓gR_B4, ↓gR_B5, ↓gR_B6, ↓gR_B7, ↓gR_B8, ↓isO_B, ↓rd_B301, ↓wr_B301, ↓ln_B301, ↓rd_B302, ↓wr_B302, ↓ln_B302, ↓rd_B303, ↓wr_B303, ↓ln_B303, ↓rd_B304, ↓wr_B304, ↓ln_B304, ↓rd_B305, ↓wr_B305, ↓ln_B305, ↓rd_B306, ↓wr_B306, ↓ln_B306, ↓rd_B307, ↓wr_B307, ↓ln_B307, ↓gR_Tv, ↓isO_Tv, ↓rd_Tv9, ↓wr_Tv9, ↓ln_Tv9, pV_D11, pV_T0, rd_T2, wr_T2, pV_U0, rd_U2, wr_U2, pV_Ps0, pV_Ps1, pV_Ps2, pV_Ps3, pV_Ps4, pV_N0, pV_N1, pV_N2, pV_N3, rd_NL, pV_NB0, rd_NC, wr_NC, rd_NP, wr_NP, pV_V0, pV_V1, pV_V2, pV_V3, rd_VL, pV_VB0, rd_VC, wr_VC, rd_VP, wr_VP, rd_SL, rd_KP, wr_KP, pV_H0, pV_H1, rd_HP, pV_B0, pV_B1, rd_B301, wr_B301, rd_B302, wr_B302, rd_B303, wr_B303, rd_B304, wr_B304, rd_B305, wr_B305, rd_B306, wr_B306, rd_B307, wr_B307, rd_Tv9, wr_Tv9, ↓isO_M, ↓gL_H, ↓pL_H, ↓gI_M1, ↓gI_M2, ↓gI_M3, ↓gI_M4, ↓gI_M5, ↓gI_M6, ↓gI_M13, ↓gI_M22, ↓gI_M23, ↓gI_M24, ↓gI_M25, ↓gI_M27, ↓gI_M28, ↓gI_M29, ↓gI_M30, ↓gI_M31, ↓gI_M32, ↓gI_M33, ↓gI_M34, ↓gI_M35, ↓gI_M40, ↓gI_M41, ↓gI_M42, ↓gI_M43, ↓pV_M1, ↓pV_M2, ↓pV_M3, ↓pV_M4, ↓pV_M5, ↓pV_M6, ↓pV_M13, ↓pV_M22, ↓pV_M23, ↓pV_M24, ↓pV_M25, ↓pV_M27, ↓pV_M28, ↓pV_M29, ↓pV_M30, ↓pV_M31, ↓pV_M32, ↓pV_M33, ↓pV_M34, ↓pV_M35, ↓pV_M40, ↓pV_M41, ↓pV_M42, ↓pV_M43, ↓gR_M0, ↓gR_M7, ↓gR_M8, ↓gR_M9, ↓gR_M10, ↓gR_M11, ↓gR_M12, ↓gR_M14, ↓gR_M15, ↓gR_M16, ↓gR_M17, ↓gR_M18, ↓gR_M19, ↓gR_M20, ↓gR_M21, ↓gR_M36, ↓gR_M37, ↓gR_M38, ↓gR_M39, ↓rd_M1, ↓rd_M2, ↓rd_M3, ↓rd_M4, ↓rd_M5, ↓rd_M6, ↓rd_M7, ↓rd_M8, ↓rd_M9, ↓rd_M10, ↓rd_M11, ↓rd_M12, ↓rd_M13, ↓rd_M14, ↓rd_M15, ↓rd_M16, ↓rd_M17, ↓rd_M18, ↓rd_M19, ↓wr_M1, ↓wr_M2, ↓wr_M3, ↓wr_M4, ↓wr_M5, ↓wr_M6, ↓wr_M7, ↓wr_M8, ↓wr_M9, ↓wr_M10, ↓wr_M11, ↓wr_M12, ↓wr_M13, ↓wr_M14, ↓wr_M15, ↓wr_M16, ↓wr_M17, ↓wr_M18, ↓wr_M19, pL_H, pV_M1, pV_M2, pV_M3, pV_M4, pV_M5, pV_M6, pV_M13, pV_M22, pV_M23, pV_M24, pV_M25, pV_M27, pV_M28, pV_M29, pV_M30, pV_M31, pV_M32, pV_M33, pV_M34, pV_M35, pV_M40, pV_M41, pV_M42, pV_M43, rd_M1, rd_M2, rd_M3, rd_M4, rd_M5, rd_M6, rd_M7, rd_M8, rd_M9, rd_M10, rd_M11, rd_M12, rd_M13, rd_M14, rd_M15, rd_M16, rd_M17, rd_M18, rd_M19, wr_M1, wr_M2, wr_M3, wr_M4, wr_M5, wr_M6, wr_M7, wr_M8, wr_M9, wr_M10, wr_M11, wr_M12, wr_M13, wr_M14, wr_M15, wr_M16, wr_M17, wr_M18, wr_M19, J_l, J_neg, J_add, J_sub, J_mul, J_lt, J_le, J_eq, J_div2, J_rem2, J_shl1, J_orp, J_or, J_and, J_shr, J_ushr, J_max, J_min, J_abs, J_b0, ↓b0_ite, ↓b0_ite2, b0_ite, bI_r, bV_r, b01_ite, ite_true, ite_false, rZ_b, K_l, J_long, M_in, e1, x1, c1, M_ride28, d1]
      exact B_keep hIk rfl rfl (fun o ho => rs_ne (by omega)) (QF_K d2 hk1)
    · rw [if_neg h2, if_neg h2]
      exact B_keep hIk rfl rfl KeepS.refl KeepM.refl
  · rw [if_neg h1, if_neg h1]
    exact B_keep hIk rfl rfl KeepS.refl KeepM.refl
end RM
