/-! one point more -/
section PO
variable {z y : Nat} {g g' : XH} {w w' : Int64} {s s' s0 s1 s2 m m' m0 m1 m2 : CT} {G W W' V W1 row row' r0 nm lo lg sn f : Int → Int} {wd hg mt c i j l n p v t k x xx yy N q o to : Int} {a b : Nat} {h : XH}
variable {k r u e d lw up st nv zv tv : Int} {w1 w2 w3 : Int64}
theorem isLn_40 (hl : 0 ≤ l ∧ l < 8) : isLn TD (40 + 3 * l.toNat) := isPl_35.2.2.2 l.toNat (by omega)
/-- a line's rows, as far as it is read -/
theorem PtJ_LV (h : PtJ s m l k nv zv tv) : LV s (40 + 3 * l.toNat) (Wp (m 17) l k zv tv) l := by
  obtain ⟨⟨h1, h2, h3, h4⟩, h5, h6, h7, h8⟩ := h
  obtain ⟨n1, n2, n3⟩ := Wp_n (W := m 17) (l := l) (k := k) (zv := zv) (tv := tv)
  refine ⟨by rw [n1]; exact h2, by rw [n2]; exact h3, by rw [n3]; exact h4, fun p p0 p1 => ?_⟩
  rw [n1] at p1
  have x := Wp_x (W := m 17) (l := l) (k := k) (zv := zv) (tv := tv) p0
  rw [x.1, x.2]
  exact (h5 p p0 p1).1
theorem PtJ_LB (h : PtJ s m l k nv zv tv) (hk : 2 ≤ k ∧ k ≤ 10) : LB (Wp (m 17) l k zv tv) l := by
  obtain ⟨⟨h1, h2, h3, h4⟩, h5, h6, h7, h8⟩ := h
  obtain ⟨n1, n2, n3⟩ := Wp_n (W := m 17) (l := l) (k := k) (zv := zv) (tv := tv)
  unfold LB
  rw [n1, n2, n3]
  refine ⟨hk, h8.2.1, h8.1, fun p p0 p1 => ?_⟩
  have x := Wp_x (W := m 17) (l := l) (k := k) (zv := zv) (tv := tv) p0
  rw [x.1, x.2]
  exact (h5 p p0 p1).2
/-- what the model writes for a point -/
def ptM (m : CT) (l k xx yy len : Int) : CT := rs (rs m 17 (ptW (m 17) l k xx yy)) 0 (ru (ru (m 0) 35 len) 34 (k + 1))
theorem M_point153 (h33 : m 0 33 = l) (hl : 0 ≤ l ∧ l < 8) (h34 : m 0 34 = k) (hk : 0 ≤ k ∧ k < 10) : qM_readPoint_153 y (J xx) (J yy) (hi y TM g w m) = rV (hi y TM g w (rs (rs m 17 (ptW (m 17) l k xx yy)) 0 (ru (m 0) 34 (k + 1)))) := by
  unfold qM_readPoint_153 qM_newAt ptW
  simp (disch := omega) only [↓isO_M, ↓gL_H, ↓pL_H, ↓gI_M1, ↓gI_M2, ↓gI_M3, ↓gI_M4, ↓gI_M5, ↓gI_M6, ↓gI_M13, ↓gI_M22, ↓gI_M23, ↓gI_M24, ↓gI_M25, ↓gI_M27, ↓gI_M28, ↓gI_M29, ↓gI_M30, ↓gI_M31, ↓gI_M32, ↓gI_M33, ↓gI_M34, ↓gI_M35, ↓gI_M40, ↓gI_M41, ↓gI_M42, ↓gI_M43, ↓pV_M1, ↓pV_M2, ↓pV_M3, ↓pV_M4, ↓pV_M5, ↓pV_M6, ↓pV_M13, ↓pV_M22, ↓pV_M23, ↓pV_M24, ↓pV_M25, ↓pV_M27, ↓pV_M28, ↓pV_M29, ↓pV_M30, ↓pV_M31, ↓pV_M32, ↓pV_M33, ↓pV_M34, ↓pV_M35, ↓pV_M40, ↓pV_M41, ↓pV_M42, ↓pV_M43, ↓gR_M0, ↓gR_M7, ↓gR_M8, ↓gR_M9, ↓gR_M10, ↓gR_M11, ↓gR_M12, ↓gR_M14, ↓gR_M15, ↓gR_M16, ↓gR_M17, ↓gR_M18, ↓gR_M19, ↓gR_M20, ↓gR_M21, ↓gR_M36, ↓gR_M37, ↓gR_M38, ↓gR_M39, ↓rd_M1, ↓rd_M2, ↓rd_M3, ↓rd_M4, ↓rd_M5, ↓rd_M6, ↓rd_M7, ↓rd_M8, ↓rd_M9, ↓rd_M10, ↓rd_M11, ↓rd_M12, ↓rd_M13, ↓rd_M14, ↓rd_M15, ↓rd_M16, ↓rd_M17, ↓rd_M18, ↓rd_M19, ↓wr_M1, ↓wr_M2, ↓wr_M3, ↓wr_M4, ↓wr_M5, ↓wr_M6, ↓wr_M7, ↓wr_M8, ↓wr_M9, ↓wr_M10, ↓wr_M11, ↓wr_M12, ↓wr_M13, ↓wr_M14, ↓wr_M15, ↓wr_M16, ↓wr_M17, ↓wr_M18, ↓wr_M19, pL_H, pV_M1, pV_M2, pV_M3, pV_M4, pV_M5, pV_M6, pV_M13, pV_M22, pV_M23, pV_M24, pV_M25, pV_M27, pV_M28, pV_M29, pV_M30, pV_M31, pV_M32, pV_M33, pV_M34, pV_M35, pV_M40, pV_M41, pV_M42, pV_M43, rd_M1, rd_M2, rd_M3, rd_M4, rd_M5, rd_M6, rd_M7, rd_M8, rd_M9, rd_M10, rd_M11, rd_M12, rd_M13, rd_M14, rd_M15, rd_M16, rd_M17, rd_M18, rd_M19, wr_M1, wr_M2, wr_M3, wr_M4, wr_M5, wr_M6, wr_M7, wr_M8, wr_M9, wr_M10, wr_M11, wr_M12, wr_M13, wr_M14, wr_M15, wr_M16, wr_M17, wr_M18, wr_M19, J_l, J_neg, J_add, J_sub, J_mul, J_lt, J_le, J_eq, J_div2, J_rem2, J_shl1, J_orp, J_or, J_and, J_shr, J_ushr, J_max, J_min, J_abs, J_b0, ↓b0_ite, ↓b0_ite2, b0_ite, bI_r, bV_r, b01_ite, ite_true, ite_false, rZ_b, K_l, J_long, M_in, rs_same, rs_ne, rs_rs, ru_same, ru_ne, ne_eq, h33, h34]
/-- a point is taken, fine: both sides -/
theorem ins_both (hg0 : GOk g z) (h : JL s m w') (hb : PB s m l k) (hln : LnI s m l) (hp : PtJ s m l k nv zv tv) (hk : k < 10) (hx : 0 ≤ xx ∧ xx < 40) (hy : 0 ≤ yy ∧ yy < 40) : (qLn_insertPoint (z + (40 + 3 * l.toNat)) (J k) (J xx) (J yy) (hi z TD g w s) = rV (hi z TD g w (insS s (40 + 3 * l.toNat) k xx yy)) ∧ JL (insS s (40 + 3 * l.toNat) k xx yy) m w' ∧ FC s (insS s (40 + 3 * l.toNat) k xx yy)) ∧ qLn_isCrooked (z + (40 + 3 * l.toNat)) (J (m 0 32)) (hi z TD g w (insS s (40 + 3 * l.toNat) k xx yy)) = rI (J (b01 (¬(k = 0 ∨ ¬bad (ptW (m 17) l k xx yy) l (m 0 32) (k - 1))))) (hi z TD g w (insS s (40 + 3 * l.toNat) k xx yy)) ∧ ((k = 0 ∨ ¬bad (ptW (m 17) l k xx yy) l (m 0 32) (k - 1)) → PB (insS s (40 + 3 * l.toNat) k xx yy) (ptM m l k xx yy (pr (ptW (m 17) l k xx yy) l k)) l (k + 1) ∧ LnI (insS s (40 + 3 * l.toNat) k xx yy) (ptM m l k xx yy (pr (ptW (m 17) l k xx yy) l k)) l ∧ PtJ (insS s (40 + 3 * l.toNat) k xx yy) (ptM m l k xx yy (pr (ptW (m 17) l k xx yy) l k)) l (k + 1) nv zv tv) := by
  obtain ⟨⟨hd1, hd2, hd3, hd4, hd5⟩, hb2, hb3, hl, hk0, hk1⟩ := hb
  obtain ⟨⟨a0, a1, a2, a3⟩, hpt, hbad, ⟨m34, m35⟩, hz⟩ := id hp
  have hLn := isLn_40 hl
  have hk10 : 0 ≤ k ∧ k < 10 := ⟨hk0, hk⟩
  have fi : ∀ o, (o < 40 + 3 * l.toNat ∨ 40 + 3 * l.toNat + 2 < o) → insS s (40 + 3 * l.toNat) k xx yy o = s o := fun o ho => by
    unfold insS
    rw [rs_ne (by omega), rs_ne (by omega), rs_ne (by omega)]
  have i0 : insS s (40 + 3 * l.toNat) k xx yy (40 + 3 * l.toNat) = ru (s (40 + 3 * l.toNat)) 1 (k + 1) := by unfold insS; rw [rs_same]
  have i1 : insS s (40 + 3 * l.toNat) k xx yy (40 + 3 * l.toNat + 1) = ru (s (40 + 3 * l.toNat + 1)) k xx := by unfold insS; rw [rs_ne (by omega), rs_ne (by omega), rs_same]
  have i2 : insS s (40 + 3 * l.toNat) k xx yy (40 + 3 * l.toNat + 2) = ru (s (40 + 3 * l.toNat + 2)) k yy := by unfold insS; rw [rs_ne (by omega), rs_same]
  have q0 : ∀ j, j ≠ 34 → j ≠ 35 → ptM m l k xx yy (pr (ptW (m 17) l k xx yy) l k) 0 j = m 0 j := fun j j1 j2 => by unfold ptM; rw [rs_same, ru_ne j1, ru_ne j2]
  have q17 : ptM m l k xx yy (pr (ptW (m 17) l k xx yy) l k) 17 = ptW (m 17) l k xx yy := by unfold ptM; rw [rs_ne (by decide), rs_same]
  have q16 : ptM m l k xx yy (pr (ptW (m 17) l k xx yy) l k) 16 = m 16 := by unfold ptM; rw [rs_ne (by decide), rs_ne (by decide)]
  -- the points now
  have pts : ∀ p, 0 ≤ p → p < k + 1 → (insS s (40 + 3 * l.toNat) k xx yy (40 + 3 * l.toNat + 1) p = cX (ptW (m 17) l k xx yy) l p ∧ insS s (40 + 3 * l.toNat) k xx yy (40 + 3 * l.toNat + 2) p = cY (ptW (m 17) l k xx yy) l p) ∧ (0 ≤ cX (ptW (m 17) l k xx yy) l p ∧ cX (ptW (m 17) l k xx yy) l p < 40) ∧ 0 ≤ cY (ptW (m 17) l k xx yy) l p ∧ cY (ptW (m 17) l k xx yy) l p < 40 := fun p p0 p1 => by
    rw [i1, i2]
    by_cases e : p = k
    · rw [e, ru_same, ru_same, (ptW_ck hk10).1, (ptW_ck hk10).2]
      exact ⟨⟨rfl, rfl⟩, hx, hy⟩
    · rw [ru_ne e, ru_ne e, (ptW_cx hk10 e).1, (ptW_cx hk10 e).2]
      exact hpt p p0 (by omega)
  refine ⟨⟨C_insertEnd hLn a1 hk10, JL_s h (fun o ho => fi o (by omega)), fun o ho => fi o (by omega)⟩, ?_, fun hok => ⟨⟨⟨?_, ?_, ?_, ?_, ?_⟩, ?_, ?_, hl, by omega, by omega⟩, fun i i0' i1' => ?_, ⟨?_, ?_, ?_, ?_⟩, ?_, ?_, ⟨?_, ?_⟩, hz⟩⟩
  · by_cases h0 : k = 0
    · rw [C_crooked1 hLn (by rw [i0, ru_same]; omega), b01_neg (fun q => q (Or.inl h0))]
    · -- rows of the line with its new point
      have hv : LV (insS s (40 + 3 * l.toNat) k xx yy) (40 + 3 * l.toNat) (Wp (ptW (m 17) l k xx yy) l (k + 1) zv tv) l := by
        obtain ⟨n1, n2, n3⟩ := Wp_n (W := ptW (m 17) l k xx yy) (l := l) (k := k + 1) (zv := zv) (tv := tv)
        refine ⟨by rw [n1, i0, ru_same], by rw [n2, i0, ru_ne (by decide)]; exact a2, by rw [n3, i0, ru_ne (by decide)]; exact a3, fun p p0 p1 => ?_⟩
        rw [n1] at p1
        have x := Wp_x (W := ptW (m 17) l k xx yy) (l := l) (k := k + 1) (zv := zv) (tv := tv) p0
        rw [x.1, x.2]
        exact (pts p p0 p1).1
      have hB : LB (Wp (ptW (m 17) l k xx yy) l (k + 1) zv tv) l := by
        obtain ⟨n1, n2, n3⟩ := Wp_n (W := ptW (m 17) l k xx yy) (l := l) (k := k + 1) (zv := zv) (tv := tv)
        unfold LB
        rw [n1, n2, n3]
        refine ⟨by omega, hz.2.1, hz.1, fun p p0 p1 => ?_⟩
        have x := Wp_x (W := ptW (m 17) l k xx yy) (l := l) (k := k + 1) (zv := zv) (tv := tv) p0
        rw [x.1, x.2]
        exact (pts p p0 p1).2
      have lc := L_isCrooked (g := g) (w := w) (c := m 0 32) hg0 hLn hv hB (by omega)
      rw [lc]
      refine congrArg (fun v => rI (J v) _) (b01_congr ?_)
      have n1 := (Wp_n (W := ptW (m 17) l k xx yy) (l := l) (k := k + 1) (zv := zv) (tv := tv)).1
      unfold crk
      rw [n1]
      constructor
      · rintro ⟨r, r0, r1, r2⟩ q
        rw [Wp_bad r0] at r2
        rcases q with q | q
        · exact h0 q
        · by_cases e : r = k - 1
          · rw [e] at r2; exact q r2
          · rw [ptW_bad hk10 (by omega)] at r2
            exact hbad r r0 (by omega) r2
      · intro q
        by_cases e : bad (ptW (m 17) l k xx yy) l (m 0 32) (k - 1)
        · exact ⟨k - 1, by omega, by omega, (Wp_bad (by omega)).mpr e⟩
        · exact absurd (Or.inr e) q
  · rw [fi 35 (by omega), q0 30 (by decide) (by decide), q0 31 (by decide) (by decide), q0 32 (by decide) (by decide)]; exact hd1
  · rw [q0 30 (by decide) (by decide)]; exact hd2
  · rw [q0 31 (by decide) (by decide)]; exact hd3
  · rw [q0 32 (by decide) (by decide)]; exact hd4
  · rw [fi 37 (by omega)]; exact hd5
  · rw [fi 35 (by omega)]; exact hb2
  · rw [q0 33 (by decide) (by decide)]; exact hb3
  · have x := hln i i0' i1'
    have sn : sameN i (m 17) (ptW (m 17) l k xx yy) := fun j j1 j2 => ptW_o hk10 (by omega)
    rw [fi (40 + 3 * i.toNat) (by omega), q17, q16]
    refine ⟨?_, x.2.1, x.2.2.1, sameN_LG sn x.2.2.2⟩
    have hv := sameN_LV sn x.2.2.2.1.1.2 x.1
    unfold LV at *
    rw [fi (40 + 3 * i.toNat) (by omega), fi (40 + 3 * i.toNat + 1) (by omega), fi (40 + 3 * i.toNat + 2) (by omega)]
    exact hv
  · rw [i0, ru_ne (by decide)]; exact a0
  · rw [i0, ru_same]
  · rw [i0, ru_ne (by decide)]; exact a2
  · rw [i0, ru_ne (by decide)]; exact a3
  · rw [q17]; exact pts
  · rw [q17, q0 32 (by decide) (by decide)]
    intro r r0 r1
    by_cases e : r = k - 1
    · rw [e]
      rcases hok with q | q
      · omega
      · exact q
    · rw [ptW_bad hk10 (by omega)]
      exact hbad r r0 (by omega)
  · unfold ptM; rw [rs_same, ru_same]
  · rw [q17]
    unfold ptM
    rw [rs_same, ru_ne (by decide), ru_same, show k + 1 - 1 = k by omega]
/-- the model's point, its row and its length -/
theorem M_point81 (h : JL s m w') (hb : PB s m l k) (hp : PtJ s m l k nv zv tv) (hk : k < 10) (hx : 0 ≤ xx ∧ xx < 40) (hy : 0 ≤ yy ∧ yy < 40) {m2 : CT} {w2 : Int64} (ht : qM_takes y (J 1) (hi y TM g' w' m) = rV (hi y TM g' w2 m2)) (hm : FM m m2) : qM_readPoint_81 y (J xx) (J yy) (J 1) y (hi y TM g' w' m) = rV (hi y TM g' w2 (ptM m2 l k xx yy (pr (ptW (m2 17) l k xx yy) l k))) := by
  obtain ⟨⟨hd1, hd2, hd3, hd4, hd5⟩, hb2, hb3, hl, hk0, hk1⟩ := hb
  obtain ⟨⟨a0, a1, a2, a3⟩, hpt, hbad, ⟨m34, m35⟩, hz⟩ := hp
  have hk10 : 0 ≤ k ∧ k < 10 := ⟨hk0, hk⟩
  have n29 : m2 0 29 = 1 := by rw [hm.2 29 (by decide) (by decide) (by decide) (by decide) (by decide)]; exact h.2
  have n33 : m2 0 33 = l := by rw [hm.2 33 (by decide) (by decide) (by decide) (by decide) (by decide)]; exact hb3
  have n34 : m2 0 34 = k := by rw [hm.2 34 (by decide) (by decide) (by decide) (by decide) (by decide)]; exact m34
  have n17 : m2 17 = m 17 := hm.1 17 (by decide)
  have n35 : m2 0 35 = pr (m2 17) l (k - 1) := by rw [hm.2 35 (by decide) (by decide) (by decide) (by decide) (by decide), n17]; exact m35
  unfold qM_readPoint_81
  simp (disch := omega) only [↓isO_M, ↓gL_H, ↓pL_H, ↓gI_M1, ↓gI_M2, ↓gI_M3, ↓gI_M4, ↓gI_M5, ↓gI_M6, ↓gI_M13, ↓gI_M22, ↓gI_M23, ↓gI_M24, ↓gI_M25, ↓gI_M27, ↓gI_M28, ↓gI_M29, ↓gI_M30, ↓gI_M31, ↓gI_M32, ↓gI_M33, ↓gI_M34, ↓gI_M35, ↓gI_M40, ↓gI_M41, ↓gI_M42, ↓gI_M43, ↓pV_M1, ↓pV_M2, ↓pV_M3, ↓pV_M4, ↓pV_M5, ↓pV_M6, ↓pV_M13, ↓pV_M22, ↓pV_M23, ↓pV_M24, ↓pV_M25, ↓pV_M27, ↓pV_M28, ↓pV_M29, ↓pV_M30, ↓pV_M31, ↓pV_M32, ↓pV_M33, ↓pV_M34, ↓pV_M35, ↓pV_M40, ↓pV_M41, ↓pV_M42, ↓pV_M43, ↓gR_M0, ↓gR_M7, ↓gR_M8, ↓gR_M9, ↓gR_M10, ↓gR_M11, ↓gR_M12, ↓gR_M14, ↓gR_M15, ↓gR_M16, ↓gR_M17, ↓gR_M18, ↓gR_M19, ↓gR_M20, ↓gR_M21, ↓gR_M36, ↓gR_M37, ↓gR_M38, ↓gR_M39, ↓rd_M1, ↓rd_M2, ↓rd_M3, ↓rd_M4, ↓rd_M5, ↓rd_M6, ↓rd_M7, ↓rd_M8, ↓rd_M9, ↓rd_M10, ↓rd_M11, ↓rd_M12, ↓rd_M13, ↓rd_M14, ↓rd_M15, ↓rd_M16, ↓rd_M17, ↓rd_M18, ↓rd_M19, ↓wr_M1, ↓wr_M2, ↓wr_M3, ↓wr_M4, ↓wr_M5, ↓wr_M6, ↓wr_M7, ↓wr_M8, ↓wr_M9, ↓wr_M10, ↓wr_M11, ↓wr_M12, ↓wr_M13, ↓wr_M14, ↓wr_M15, ↓wr_M16, ↓wr_M17, ↓wr_M18, ↓wr_M19, pL_H, pV_M1, pV_M2, pV_M3, pV_M4, pV_M5, pV_M6, pV_M13, pV_M22, pV_M23, pV_M24, pV_M25, pV_M27, pV_M28, pV_M29, pV_M30, pV_M31, pV_M32, pV_M33, pV_M34, pV_M35, pV_M40, pV_M41, pV_M42, pV_M43, rd_M1, rd_M2, rd_M3, rd_M4, rd_M5, rd_M6, rd_M7, rd_M8, rd_M9, rd_M10, rd_M11, rd_M12, rd_M13, rd_M14, rd_M15, rd_M16, rd_M17, rd_M18, rd_M19, wr_M1, wr_M2, wr_M3, wr_M4, wr_M5, wr_M6, wr_M7, wr_M8, wr_M9, wr_M10, wr_M11, wr_M12, wr_M13, wr_M14, wr_M15, wr_M16, wr_M17, wr_M18, wr_M19, J_l, J_neg, J_add, J_sub, J_mul, J_lt, J_le, J_eq, J_div2, J_rem2, J_shl1, J_orp, J_or, J_and, J_shr, J_ushr, J_max, J_min, J_abs, J_b0, ↓b0_ite, ↓b0_ite2, b0_ite, bI_r, bV_r, b01_ite, ite_true, ite_false, rZ_b, K_l, J_long, M_in, ht, n29, I10, n34]
  by_cases h0 : k = 0
  · rw [if_neg (show ¬0 < k by omega), M_point153 n33 hl n34 hk10]
    unfold ptM
    have e35 : ru (m2 0) 35 (pr (ptW (m2 17) l k xx yy) l k) = m2 0 := funext fun j => by
      unfold ru
      split
      · rename_i e
        have : pr (ptW (m2 17) l k xx yy) l k = 0 := by rw [h0]; rfl
        rw [e, this, n35, h0]
        exact (sm_neg (show (0 : Int) - 1 ≤ 0 by omega)).symm
      · rfl
    rw [e35]
  · rw [if_pos (show 0 < k by omega)]
    have p1 := hpt (k - 1) (by omega) (by omega)
    rw [← n17] at p1
    have nx := M_newX (y := y) (g := g') (w := w2) (p := k - 1) n33 hl (by omega)
    have ny := M_newY (y := y) (g := g') (w := w2) (p := k - 1) n33 hl (by omega)
    have sx := qM_size_hp (h := hi y TM g' w2 m2) (v := xx - cX (m2 17) l (k - 1)) (by omega)
    have sy := qM_size_hp (h := hi y TM g' w2 m2) (v := yy - cY (m2 17) l (k - 1)) (by omega)
    have spk : sp (ptW (m2 17) l k xx yy) l (k - 1) = max ((xx - cX (m2 17) l (k - 1)).natAbs : Int) ((yy - cY (m2 17) l (k - 1)).natAbs : Int) := by
      unfold sp
      rw [show k - 1 + 1 = k by omega, (ptW_ck hk10).1, (ptW_ck hk10).2, (ptW_cx hk10 (show k - 1 ≠ k by omega)).1, (ptW_cx hk10 (show k - 1 ≠ k by omega)).2]
    have prk : pr (ptW (m2 17) l k xx yy) l k = pr (m2 17) l (k - 1) + sp (ptW (m2 17) l k xx yy) l (k - 1) := by
      have := pr_s (W := ptW (m2 17) l k xx yy) (l := l) (r := k - 1) (by omega)
      rw [show k - 1 + 1 = k by omega, ptW_pr hk10] at this
      exact this
    have pb : 0 ≤ pr (m2 17) l (k - 1) ∧ pr (m2 17) l (k - 1) ≤ 390 := by
      have := sm_bd (f := sp (m2 17) l) (n := k - 1) (a := 0) (b := 39) (by omega) (fun r r0 r1 => by
        have q1 := hpt r r0 (by omega)
        have q2 := hpt (r + 1) (by omega) (by omega)
        rw [← n17] at q1 q2
        unfold sp
        omega)
      unfold pr
      omega
    simp (disch := omega) only [↓isO_M, ↓gL_H, ↓pL_H, ↓gI_M1, ↓gI_M2, ↓gI_M3, ↓gI_M4, ↓gI_M5, ↓gI_M6, ↓gI_M13, ↓gI_M22, ↓gI_M23, ↓gI_M24, ↓gI_M25, ↓gI_M27, ↓gI_M28, ↓gI_M29, ↓gI_M30, ↓gI_M31, ↓gI_M32, ↓gI_M33, ↓gI_M34, ↓gI_M35, ↓gI_M40, ↓gI_M41, ↓gI_M42, ↓gI_M43, ↓pV_M1, ↓pV_M2, ↓pV_M3, ↓pV_M4, ↓pV_M5, ↓pV_M6, ↓pV_M13, ↓pV_M22, ↓pV_M23, ↓pV_M24, ↓pV_M25, ↓pV_M27, ↓pV_M28, ↓pV_M29, ↓pV_M30, ↓pV_M31, ↓pV_M32, ↓pV_M33, ↓pV_M34, ↓pV_M35, ↓pV_M40, ↓pV_M41, ↓pV_M42, ↓pV_M43, ↓gR_M0, ↓gR_M7, ↓gR_M8, ↓gR_M9, ↓gR_M10, ↓gR_M11, ↓gR_M12, ↓gR_M14, ↓gR_M15, ↓gR_M16, ↓gR_M17, ↓gR_M18, ↓gR_M19, ↓gR_M20, ↓gR_M21, ↓gR_M36, ↓gR_M37, ↓gR_M38, ↓gR_M39, ↓rd_M1, ↓rd_M2, ↓rd_M3, ↓rd_M4, ↓rd_M5, ↓rd_M6, ↓rd_M7, ↓rd_M8, ↓rd_M9, ↓rd_M10, ↓rd_M11, ↓rd_M12, ↓rd_M13, ↓rd_M14, ↓rd_M15, ↓rd_M16, ↓rd_M17, ↓rd_M18, ↓rd_M19, ↓wr_M1, ↓wr_M2, ↓wr_M3, ↓wr_M4, ↓wr_M5, ↓wr_M6, ↓wr_M7, ↓wr_M8, ↓wr_M9, ↓wr_M10, ↓wr_M11, ↓wr_M12, ↓wr_M13, ↓wr_M14, ↓wr_M15, ↓wr_M16, ↓wr_M17, ↓wr_M18, ↓wr_M19, pL_H, pV_M1, pV_M2, pV_M3, pV_M4, pV_M5, pV_M6, pV_M13, pV_M22, pV_M23, pV_M24, pV_M25, pV_M27, pV_M28, pV_M29, pV_M30, pV_M31, pV_M32, pV_M33, pV_M34, pV_M35, pV_M40, pV_M41, pV_M42, pV_M43, rd_M1, rd_M2, rd_M3, rd_M4, rd_M5, rd_M6, rd_M7, rd_M8, rd_M9, rd_M10, rd_M11, rd_M12, rd_M13, rd_M14, rd_M15, rd_M16, rd_M17, rd_M18, rd_M19, wr_M1, wr_M2, wr_M3, wr_M4, wr_M5, wr_M6, wr_M7, wr_M8, wr_M9, wr_M10, wr_M11, wr_M12, wr_M13, wr_M14, wr_M15, wr_M16, wr_M17, wr_M18, wr_M19, J_l, J_neg, J_add, J_sub, J_mul, J_lt, J_le, J_eq, J_div2, J_rem2, J_shl1, J_orp, J_or, J_and, J_shr, J_ushr, J_max, J_min, J_abs, J_b0, ↓b0_ite, ↓b0_ite2, b0_ite, bI_r, bV_r, b01_ite, ite_true, ite_false, rZ_b, K_l, J_long, M_in, nx, ny, sx, sy, n34, n35]
    unfold qM_readPoint_149
    have fin : ∀ v : Int, v = sp (ptW (m2 17) l k xx yy) l (k - 1) → bV (rV (hi y TM g' w2 (rs m2 0 (ru (m2 0) 35 (pr (m2 17) l (k - 1) + v))))) (fun h1 => qM_readPoint_153 y (J xx) (J yy) h1) = rV (hi y TM g' w2 (ptM m2 l k xx yy (pr (ptW (m2 17) l k xx yy) l k))) := fun v hv => by
      have f33 : rs m2 0 (ru (m2 0) 35 (pr (m2 17) l (k - 1) + v)) 0 33 = l := by rw [rs_same, ru_ne (by decide)]; exact n33
      have f34 : rs m2 0 (ru (m2 0) 35 (pr (m2 17) l (k - 1) + v)) 0 34 = k := by rw [rs_same, ru_ne (by decide)]; exact n34
      have := M_point153 (y := y) (g := g') (w := w2) (xx := xx) (yy := yy) f33 hl f34 hk10
      rw [bV_r, this, hv, ← prk]
      unfold ptM
      rw [rs_ne (show (17 : Nat) ≠ 0 by decide), rs_same]
      congr 2
      funext o
      unfold rs
      by_cases e0 : o = 0
      · rw [if_pos e0, if_pos e0]
      · rw [if_neg e0, if_neg e0]
        by_cases e17 : o = 17
        · rw [if_pos e17, if_neg e0]
        · rw [if_neg e17, if_neg e0]
    simp (disch := omega) only [bV_r] at fin
    simp (disch := omega) only [↓isO_M, ↓gL_H, ↓pL_H, ↓gI_M1, ↓gI_M2, ↓gI_M3, ↓gI_M4, ↓gI_M5, ↓gI_M6, ↓gI_M13, ↓gI_M22, ↓gI_M23, ↓gI_M24, ↓gI_M25, ↓gI_M27, ↓gI_M28, ↓gI_M29, ↓gI_M30, ↓gI_M31, ↓gI_M32, ↓gI_M33, ↓gI_M34, ↓gI_M35, ↓gI_M40, ↓gI_M41, ↓gI_M42, ↓gI_M43, ↓pV_M1, ↓pV_M2, ↓pV_M3, ↓pV_M4, ↓pV_M5, ↓pV_M6, ↓pV_M13, ↓pV_M22, ↓pV_M23, ↓pV_M24, ↓pV_M25, ↓pV_M27, ↓pV_M28, ↓pV_M29, ↓pV_M30, ↓pV_M31, ↓pV_M32, ↓pV_M33, ↓pV_M34, ↓pV_M35, ↓pV_M40, ↓pV_M41, ↓pV_M42, ↓pV_M43, ↓gR_M0, ↓gR_M7, ↓gR_M8, ↓gR_M9, ↓gR_M10, ↓gR_M11, ↓gR_M12, ↓gR_M14, ↓gR_M15, ↓gR_M16, ↓gR_M17, ↓gR_M18, ↓gR_M19, ↓gR_M20, ↓gR_M21, ↓gR_M36, ↓gR_M37, ↓gR_M38, ↓gR_M39, ↓rd_M1, ↓rd_M2, ↓rd_M3, ↓rd_M4, ↓rd_M5, ↓rd_M6, ↓rd_M7, ↓rd_M8, ↓rd_M9, ↓rd_M10, ↓rd_M11, ↓rd_M12, ↓rd_M13, ↓rd_M14, ↓rd_M15, ↓rd_M16, ↓rd_M17, ↓rd_M18, ↓rd_M19, ↓wr_M1, ↓wr_M2, ↓wr_M3, ↓wr_M4, ↓wr_M5, ↓wr_M6, ↓wr_M7, ↓wr_M8, ↓wr_M9, ↓wr_M10, ↓wr_M11, ↓wr_M12, ↓wr_M13, ↓wr_M14, ↓wr_M15, ↓wr_M16, ↓wr_M17, ↓wr_M18, ↓wr_M19, pL_H, pV_M1, pV_M2, pV_M3, pV_M4, pV_M5, pV_M6, pV_M13, pV_M22, pV_M23, pV_M24, pV_M25, pV_M27, pV_M28, pV_M29, pV_M30, pV_M31, pV_M32, pV_M33, pV_M34, pV_M35, pV_M40, pV_M41, pV_M42, pV_M43, rd_M1, rd_M2, rd_M3, rd_M4, rd_M5, rd_M6, rd_M7, rd_M8, rd_M9, rd_M10, rd_M11, rd_M12, rd_M13, rd_M14, rd_M15, rd_M16, rd_M17, rd_M18, rd_M19, wr_M1, wr_M2, wr_M3, wr_M4, wr_M5, wr_M6, wr_M7, wr_M8, wr_M9, wr_M10, wr_M11, wr_M12, wr_M13, wr_M14, wr_M15, wr_M16, wr_M17, wr_M18, wr_M19, J_l, J_neg, J_add, J_sub, J_mul, J_lt, J_le, J_eq, J_div2, J_rem2, J_shl1, J_orp, J_or, J_and, J_shr, J_ushr, J_max, J_min, J_abs, J_b0, ↓b0_ite, ↓b0_ite2, b0_ite, bI_r, bV_r, b01_ite, ite_true, ite_false, rZ_b, K_l, J_long, M_in, n35]
    by_cases h3 : ((yy - cY (m2 17) l (k - 1)).natAbs : Int) < ((xx - cX (m2 17) l (k - 1)).natAbs : Int)
    · rw [if_pos h3]
      exact fin _ (by rw [spk]; omega)
    · rw [if_neg h3]
      exact fin _ (by rw [spk]; omega)
end PO
