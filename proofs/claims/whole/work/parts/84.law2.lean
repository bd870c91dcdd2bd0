/-! the law, call by call -/
section LAW2
set_option maxHeartbeats 100000
variable {z y : Nat} {g g' : XH} {w w' : Int64} {s s' s0 s1 s2 m m' m0 m1 m2 : CT} {G W W' V W1 row row' r0 nm lo lg sn f : Int → Int} {wd hg mt c i j l n p v t k x xx yy N q o to : Int} {a b : Nat} {h : XH}
variable {k r u e d lw up st nv zv tv E L : Int} {w1 w2 w3 : Int64} {h0 : XH} {xs : Nat → Int32} {qd qm : XH → XR} {X Y : XR} {k18 : Nat → Nat → Nat → Int32 → XH → XR}
theorem bF_r {v : UInt32} {h : XH} {K : UInt32 → XH → XR} : bF (rF v h) K = K v h := rfl
theorem law_236 (hb : GT h0 z) (hs : Scr h0 z b L xs) (hi0 : 0 ≤ i) (hiL : i + 6 ≤ L) (hI : Inv s m) : LawR (qL_law_236 k18 b z (z + 371) (J i) (HH h0 z w s w' m)) k18 b z i h0 w := by
  obtain ⟨a1, e1, b1⟩ := xs_ex xs (i + 1).toNat
  have r1 : ∀ s w' m K, rdI (HH h0 z w s w' m) b (J i + (1 : Int32)) K = K (J a1) := rd_1 (w := w) hb hs hi0 1 (by omega) e1
  obtain ⟨a2, e2, b2⟩ := xs_ex xs (i + 2).toNat
  have r2 : ∀ s w' m K, rdI (HH h0 z w s w' m) b (J i + (2 : Int32)) K = K (J a2) := rd_1 (w := w) hb hs hi0 2 (by omega) e2
  obtain ⟨a3, e3, b3⟩ := xs_ex xs (i + 3).toNat
  have r3 : ∀ s w' m K, rdI (HH h0 z w s w' m) b (J i + (3 : Int32)) K = K (J a3) := rd_1 (w := w) hb hs hi0 3 (by omega) e3
  obtain ⟨a4, e4, b4⟩ := xs_ex xs (i + 4).toNat
  have r4 : ∀ s w' m K, rdI (HH h0 z w s w' m) b (J i + (4 : Int32)) K = K (J a4) := rd_1 (w := w) hb hs hi0 4 (by omega) e4
  obtain ⟨a5, e5, b5⟩ := xs_ex xs (i + 5).toNat
  have r5 : ∀ s w' m K, rdI (HH h0 z w s w' m) b (J i + (5 : Int32)) K = K (J a5) := rd_1 (w := w) hb hs hi0 5 (by omega) e5
  have ad : J i + (6 : Int32) = J (i + 6) := J_add i 6
  obtain ⟨v, w2, s', m', p, q, hI'⟩ := law_step (qd := fun h => qD_append z (J a1) (J a2) (J a3) (J a4) (J a5) h) (qm := fun h => qM_append (z + 371) (J a1) (J a2) (J a3) (J a4) (J a5) h) hb (fun g g' hg => B_append hI)
  refine ⟨s', w2, m', hI', ?_⟩
  unfold qL_law_236 qL_law_1721
  rw [r1, r2, r3, r4, r5, isO_z, p, bI_r, r1, r2, r3, r4, r5, isO_y, q, bI_r, if_pos rfl, ad]
theorem law_299 (hb : GT h0 z) (hs : Scr h0 z b L xs) (hi0 : 0 ≤ i) (hiL : i + 6 ≤ L) (hI : Inv s m) : LawR (qL_law_299 k18 b z (z + 371) (J i) (HH h0 z w s w' m)) k18 b z i h0 w := by
  obtain ⟨a1, e1, b1⟩ := xs_ex xs (i + 1).toNat
  have r1 : ∀ s w' m K, rdI (HH h0 z w s w' m) b (J i + (1 : Int32)) K = K (J a1) := rd_1 (w := w) hb hs hi0 1 (by omega) e1
  have ad : J i + (6 : Int32) = J (i + 6) := J_add i 6
  obtain ⟨v, w2, s', m', p, q, hI'⟩ := law_step (qd := fun h => qD_truncate z (J a1) h) (qm := fun h => qM_truncate (z + 371) (J a1) h) hb (fun g g' hg => B_truncate hI b1)
  refine ⟨s', w2, m', hI', ?_⟩
  unfold qL_law_299 qL_law_1721
  rw [r1, isO_z, p, bI_r, r1, isO_y, q, bI_r, if_pos rfl, ad]
theorem law_322 (hb : GT h0 z) (hs : Scr h0 z b L xs) (hi0 : 0 ≤ i) (hiL : i + 6 ≤ L) (hI : Inv s m) : LawR (qL_law_322 k18 b z (z + 371) (J i) (HH h0 z w s w' m)) k18 b z i h0 w := by
  have ad : J i + (6 : Int32) = J (i + 6) := J_add i 6
  obtain ⟨v, w2, s', m', p, q, hI'⟩ := law_step (qd := fun h => qD_load z h) (qm := fun h => qM_load (z + 371) h) hb (fun g g' hg => B_load hg.1 hI)
  refine ⟨s', w2, m', hI', ?_⟩
  unfold qL_law_322 qL_law_1721
  rw [isO_z, p, bI_r, isO_y, q, bI_r, if_pos rfl, ad]
theorem law_335 (hb : GT h0 z) (hs : Scr h0 z b L xs) (hi0 : 0 ≤ i) (hiL : i + 6 ≤ L) (hI : Inv s m) : LawR (qL_law_335 k18 b z (z + 371) (J i) (HH h0 z w s w' m)) k18 b z i h0 w := by
  have ad : J i + (6 : Int32) = J (i + 6) := J_add i 6
  obtain ⟨v, w2, s', m', p, q, hI'⟩ := law_step (qd := fun h => qD_errorPosition z h) (qm := fun h => qM_errorPosition (z + 371) h) hb (fun g g' hg => B_errorPosition hI)
  refine ⟨s', w2, m', hI', ?_⟩
  unfold qL_law_335 qL_law_1721
  rw [isO_z, p, bI_r, isO_y, q, bI_r, if_pos rfl, ad]
theorem law_348 (hb : GT h0 z) (hs : Scr h0 z b L xs) (hi0 : 0 ≤ i) (hiL : i + 6 ≤ L) (hI : Inv s m) : LawR (qL_law_348 k18 b z (z + 371) (J i) (HH h0 z w s w' m)) k18 b z i h0 w := by
  obtain ⟨a1, e1, b1⟩ := xs_ex xs (i + 1).toNat
  have r1 : ∀ s w' m K, rdI (HH h0 z w s w' m) b (J i + (1 : Int32)) K = K (J a1) := rd_1 (w := w) hb hs hi0 1 (by omega) e1
  obtain ⟨a2, e2, b2⟩ := xs_ex xs (i + 2).toNat
  have r2 : ∀ s w' m K, rdI (HH h0 z w s w' m) b (J i + (2 : Int32)) K = K (J a2) := rd_1 (w := w) hb hs hi0 2 (by omega) e2
  obtain ⟨a3, e3, b3⟩ := xs_ex xs (i + 3).toNat
  have r3 : ∀ s w' m K, rdI (HH h0 z w s w' m) b (J i + (3 : Int32)) K = K (J a3) := rd_1 (w := w) hb hs hi0 3 (by omega) e3
  obtain ⟨a4, e4, b4⟩ := xs_ex xs (i + 4).toNat
  have r4 : ∀ s w' m K, rdI (HH h0 z w s w' m) b (J i + (4 : Int32)) K = K (J a4) := rd_1 (w := w) hb hs hi0 4 (by omega) e4
  have ad : J i + (6 : Int32) = J (i + 6) := J_add i 6
  obtain ⟨v, w2, s', m', p, q, hI'⟩ := law_step (qd := fun h => qD_moveBend z (J a1) (J a2) (J a3) (J a4) h) (qm := fun h => qM_moveBend (z + 371) (J a1) (J a2) (J a3) (J a4) h) hb (fun g g' hg => B_moveBend hg.1 hI b1 b2 b3 b4)
  refine ⟨s', w2, m', hI', ?_⟩
  unfold qL_law_348 qL_law_1721
  rw [r1, r2, r3, r4, isO_z, p, bI_r, r1, r2, r3, r4, isO_y, q, bI_r, if_pos rfl, ad]
theorem law_401 (hb : GT h0 z) (hs : Scr h0 z b L xs) (hi0 : 0 ≤ i) (hiL : i + 6 ≤ L) (hI : Inv s m) : LawR (qL_law_401 k18 b z (z + 371) (J i) (HH h0 z w s w' m)) k18 b z i h0 w := by
  obtain ⟨a1, e1, b1⟩ := xs_ex xs (i + 1).toNat
  have r1 : ∀ s w' m K, rdI (HH h0 z w s w' m) b (J i + (1 : Int32)) K = K (J a1) := rd_1 (w := w) hb hs hi0 1 (by omega) e1
  obtain ⟨a2, e2, b2⟩ := xs_ex xs (i + 2).toNat
  have r2 : ∀ s w' m K, rdI (HH h0 z w s w' m) b (J i + (2 : Int32)) K = K (J a2) := rd_1 (w := w) hb hs hi0 2 (by omega) e2
  obtain ⟨a3, e3, b3⟩ := xs_ex xs (i + 3).toNat
  have r3 : ∀ s w' m K, rdI (HH h0 z w s w' m) b (J i + (3 : Int32)) K = K (J a3) := rd_1 (w := w) hb hs hi0 3 (by omega) e3
  obtain ⟨a4, e4, b4⟩ := xs_ex xs (i + 4).toNat
  have r4 : ∀ s w' m K, rdI (HH h0 z w s w' m) b (J i + (4 : Int32)) K = K (J a4) := rd_1 (w := w) hb hs hi0 4 (by omega) e4
  have ad : J i + (6 : Int32) = J (i + 6) := J_add i 6
  obtain ⟨v, w2, s', m', p, q, hI'⟩ := law_step (qd := fun h => qD_insert z (J a1) (J a2) (J a3) (J a4) h) (qm := fun h => qM_insert (z + 371) (J a1) (J a2) (J a3) (J a4) h) hb (fun g g' hg => B_insert hg.1 hI b1 b2 b3 b4)
  refine ⟨s', w2, m', hI', ?_⟩
  unfold qL_law_401 qL_law_1721
  rw [r1, r2, r3, r4, isO_z, p, bI_r, r1, r2, r3, r4, isO_y, q, bI_r, if_pos rfl, ad]
theorem law_454 (hb : GT h0 z) (hs : Scr h0 z b L xs) (hi0 : 0 ≤ i) (hiL : i + 6 ≤ L) (hI : Inv s m) : LawR (qL_law_454 k18 b z (z + 371) (J i) (HH h0 z w s w' m)) k18 b z i h0 w := by
  obtain ⟨a1, e1, b1⟩ := xs_ex xs (i + 1).toNat
  have r1 : ∀ s w' m K, rdI (HH h0 z w s w' m) b (J i + (1 : Int32)) K = K (J a1) := rd_1 (w := w) hb hs hi0 1 (by omega) e1
  obtain ⟨a2, e2, b2⟩ := xs_ex xs (i + 2).toNat
  have r2 : ∀ s w' m K, rdI (HH h0 z w s w' m) b (J i + (2 : Int32)) K = K (J a2) := rd_1 (w := w) hb hs hi0 2 (by omega) e2
  have ad : J i + (6 : Int32) = J (i + 6) := J_add i 6
  obtain ⟨v, w2, s', m', p, q, hI'⟩ := law_step (qd := fun h => qD_removePoint z (J a1) (J a2) h) (qm := fun h => qM_removePoint (z + 371) (J a1) (J a2) h) hb (fun g g' hg => B_removePoint hg.1 hI b1 b2)
  refine ⟨s', w2, m', hI', ?_⟩
  unfold qL_law_454 qL_law_1721
  rw [r1, r2, isO_z, p, bI_r, r1, r2, isO_y, q, bI_r, if_pos rfl, ad]
theorem law_487 (hb : GT h0 z) (hs : Scr h0 z b L xs) (hi0 : 0 ≤ i) (hiL : i + 6 ≤ L) (hI : Inv s m) : LawR (qL_law_487 k18 b z (z + 371) (J i) (HH h0 z w s w' m)) k18 b z i h0 w := by
  obtain ⟨a1, e1, b1⟩ := xs_ex xs (i + 1).toNat
  have r1 : ∀ s w' m K, rdI (HH h0 z w s w' m) b (J i + (1 : Int32)) K = K (J a1) := rd_1 (w := w) hb hs hi0 1 (by omega) e1
  have ad : J i + (6 : Int32) = J (i + 6) := J_add i 6
  obtain ⟨v, w2, s', m', p, q, hI'⟩ := law_step (qd := fun h => qD_reverse z (J a1) h) (qm := fun h => qM_reverse (z + 371) (J a1) h) hb (fun g g' hg => B_reverse hg.1 hI b1)
  refine ⟨s', w2, m', hI', ?_⟩
  unfold qL_law_487 qL_law_1721
  rw [r1, isO_z, p, bI_r, r1, isO_y, q, bI_r, if_pos rfl, ad]
theorem law_510 (hb : GT h0 z) (hs : Scr h0 z b L xs) (hi0 : 0 ≤ i) (hiL : i + 6 ≤ L) (hI : Inv s m) : LawR (qL_law_510 k18 b z (z + 371) (J i) (HH h0 z w s w' m)) k18 b z i h0 w := by
  obtain ⟨a1, e1, b1⟩ := xs_ex xs (i + 1).toNat
  have r1 : ∀ s w' m K, rdI (HH h0 z w s w' m) b (J i + (1 : Int32)) K = K (J a1) := rd_1 (w := w) hb hs hi0 1 (by omega) e1
  obtain ⟨a2, e2, b2⟩ := xs_ex xs (i + 2).toNat
  have r2 : ∀ s w' m K, rdI (HH h0 z w s w' m) b (J i + (2 : Int32)) K = K (J a2) := rd_1 (w := w) hb hs hi0 2 (by omega) e2
  have ad : J i + (6 : Int32) = J (i + 6) := J_add i 6
  obtain ⟨v, w2, s', m', p, q, hI'⟩ := law_step (qd := fun h => qD_setStops z (J a1) (J a2) h) (qm := fun h => qM_setStops (z + 371) (J a1) (J a2) h) hb (fun g g' hg => B_setStops hg.1 hI b1 b2)
  refine ⟨s', w2, m', hI', ?_⟩
  unfold qL_law_510 qL_law_1721
  rw [r1, r2, isO_z, p, bI_r, r1, r2, isO_y, q, bI_r, if_pos rfl, ad]
theorem law_543 (hb : GT h0 z) (hs : Scr h0 z b L xs) (hi0 : 0 ≤ i) (hiL : i + 6 ≤ L) (hI : Inv s m) : LawR (qL_law_543 k18 b z (z + 371) (J i) (HH h0 z w s w' m)) k18 b z i h0 w := by
  obtain ⟨a1, e1, b1⟩ := xs_ex xs (i + 1).toNat
  have r1 : ∀ s w' m K, rdI (HH h0 z w s w' m) b (J i + (1 : Int32)) K = K (J a1) := rd_1 (w := w) hb hs hi0 1 (by omega) e1
  obtain ⟨a2, e2, b2⟩ := xs_ex xs (i + 2).toNat
  have r2 : ∀ s w' m K, rdI (HH h0 z w s w' m) b (J i + (2 : Int32)) K = K (J a2) := rd_1 (w := w) hb hs hi0 2 (by omega) e2
  have ad : J i + (6 : Int32) = J (i + 6) := J_add i 6
  obtain ⟨v, w2, s', m', p, q, hI'⟩ := law_step (qd := fun h => qD_setSize z (J a1) (J a2) h) (qm := fun h => qM_setSize (z + 371) (J a1) (J a2) h) hb (fun g g' hg => B_setSize hg.1 hI b1 b2)
  refine ⟨s', w2, m', hI', ?_⟩
  unfold qL_law_543 qL_law_1721
  rw [r1, r2, isO_z, p, bI_r, r1, r2, isO_y, q, bI_r, if_pos rfl, ad]
theorem law_576 (hb : GT h0 z) (hs : Scr h0 z b L xs) (hi0 : 0 ≤ i) (hiL : i + 6 ≤ L) (hI : Inv s m) : LawR (qL_law_576 k18 b z (z + 371) (J i) (HH h0 z w s w' m)) k18 b z i h0 w := by
  obtain ⟨a1, e1, b1⟩ := xs_ex xs (i + 1).toNat
  have r1 : ∀ s w' m K, rdI (HH h0 z w s w' m) b (J i + (1 : Int32)) K = K (J a1) := rd_1 (w := w) hb hs hi0 1 (by omega) e1
  obtain ⟨a2, e2, b2⟩ := xs_ex xs (i + 2).toNat
  have r2 : ∀ s w' m K, rdI (HH h0 z w s w' m) b (J i + (2 : Int32)) K = K (J a2) := rd_1 (w := w) hb hs hi0 2 (by omega) e2
  obtain ⟨a3, e3, b3⟩ := xs_ex xs (i + 3).toNat
  have r3 : ∀ s w' m K, rdI (HH h0 z w s w' m) b (J i + (3 : Int32)) K = K (J a3) := rd_1 (w := w) hb hs hi0 3 (by omega) e3
  have ad : J i + (6 : Int32) = J (i + 6) := J_add i 6
  obtain ⟨v, w2, s', m', p, q, hI'⟩ := law_step (qd := fun h => qD_label z (J a1) (J a2) (J a3) h) (qm := fun h => qM_label (z + 371) (J a1) (J a2) (J a3) h) hb (fun g g' hg => B_label hI b1 b2 b3)
  refine ⟨s', w2, m', hI', ?_⟩
  unfold qL_law_576 qL_law_1721
  rw [r1, r2, r3, isO_z, p, bI_r, r1, r2, r3, isO_y, q, bI_r, if_pos rfl, ad]
theorem law_619 (hb : GT h0 z) (hs : Scr h0 z b L xs) (hi0 : 0 ≤ i) (hiL : i + 6 ≤ L) (hI : Inv s m) : LawR (qL_law_619 k18 b z (z + 371) (J i) (HH h0 z w s w' m)) k18 b z i h0 w := by
  obtain ⟨a1, e1, b1⟩ := xs_ex xs (i + 1).toNat
  have r1 : ∀ s w' m K, rdI (HH h0 z w s w' m) b (J i + (1 : Int32)) K = K (J a1) := rd_1 (w := w) hb hs hi0 1 (by omega) e1
  obtain ⟨a2, e2, b2⟩ := xs_ex xs (i + 2).toNat
  have r2 : ∀ s w' m K, rdI (HH h0 z w s w' m) b (J i + (2 : Int32)) K = K (J a2) := rd_1 (w := w) hb hs hi0 2 (by omega) e2
  have ad : J i + (6 : Int32) = J (i + 6) := J_add i 6
  obtain ⟨v, w2, s', m', p, q, hI'⟩ := law_step (qd := fun h => qD_unlabel z (J a1) (J a2) h) (qm := fun h => qM_unlabel (z + 371) (J a1) (J a2) h) hb (fun g g' hg => B_unlabel hI b1 b2)
  refine ⟨s', w2, m', hI', ?_⟩
  unfold qL_law_619 qL_law_1721
  rw [r1, r2, isO_z, p, bI_r, r1, r2, isO_y, q, bI_r, if_pos rfl, ad]
theorem law_652 (hb : GT h0 z) (hs : Scr h0 z b L xs) (hi0 : 0 ≤ i) (hiL : i + 6 ≤ L) (hI : Inv s m) : LawR (qL_law_652 k18 b z (z + 371) (J i) (HH h0 z w s w' m)) k18 b z i h0 w := by
  obtain ⟨a1, e1, b1⟩ := xs_ex xs (i + 1).toNat
  have r1 : ∀ s w' m K, rdI (HH h0 z w s w' m) b (J i + (1 : Int32)) K = K (J a1) := rd_1 (w := w) hb hs hi0 1 (by omega) e1
  obtain ⟨a2, e2, b2⟩ := xs_ex xs (i + 2).toNat
  have r2 : ∀ s w' m K, rdI (HH h0 z w s w' m) b (J i + (2 : Int32)) K = K (J a2) := rd_1 (w := w) hb hs hi0 2 (by omega) e2
  have ad : J i + (6 : Int32) = J (i + 6) := J_add i 6
  obtain ⟨v, w2, s', m', p, q, hI'⟩ := law_step (qd := fun h => qD_dodge z (J a1) (J a2) h) (qm := fun h => qM_dodge (z + 371) (J a1) (J a2) h) hb (fun g g' hg => B_dodge hI b1 b2)
  refine ⟨s', w2, m', hI', ?_⟩
  unfold qL_law_652 qL_law_1721
  rw [r1, r2, isO_z, p, bI_r, r1, r2, isO_y, q, bI_r, if_pos rfl, ad]
theorem law_685 (hb : GT h0 z) (hs : Scr h0 z b L xs) (hi0 : 0 ≤ i) (hiL : i + 6 ≤ L) (hI : Inv s m) : LawR (qL_law_685 k18 b z (z + 371) (J i) (HH h0 z w s w' m)) k18 b z i h0 w := by
  have ad : J i + (6 : Int32) = J (i + 6) := J_add i 6
  obtain ⟨v, w2, s', m', p, q, hI'⟩ := law_step (qd := fun h => qD_labelAll z h) (qm := fun h => qM_labelAll (z + 371) h) hb (fun g g' hg => B_labelAll hI)
  refine ⟨s', w2, m', hI', ?_⟩
  unfold qL_law_685 qL_law_1721
  rw [isO_z, p, bI_r, isO_y, q, bI_r, if_pos rfl, ad]
theorem law_698 (hb : GT h0 z) (hs : Scr h0 z b L xs) (hi0 : 0 ≤ i) (hiL : i + 6 ≤ L) (hI : Inv s m) : LawR (qL_law_698 k18 b z (z + 371) (J i) (HH h0 z w s w' m)) k18 b z i h0 w := by
  obtain ⟨a1, e1, b1⟩ := xs_ex xs (i + 1).toNat
  have r1 : ∀ s w' m K, rdI (HH h0 z w s w' m) b (J i + (1 : Int32)) K = K (J a1) := rd_1 (w := w) hb hs hi0 1 (by omega) e1
  have ad : J i + (6 : Int32) = J (i + 6) := J_add i 6
  obtain ⟨v, w2, s', m', p, q, hI'⟩ := law_step (qd := fun h => qD_keep z (J a1) h) (qm := fun h => qM_keep (z + 371) (J a1) h) hb (fun g g' hg => B_keepS hI b1)
  refine ⟨s', w2, m', hI', ?_⟩
  unfold qL_law_698 qL_law_1721
  rw [r1, isO_z, p, bI_r, r1, isO_y, q, bI_r, if_pos rfl, ad]
theorem law_721 (hb : GT h0 z) (hs : Scr h0 z b L xs) (hi0 : 0 ≤ i) (hiL : i + 6 ≤ L) (hI : Inv s m) : LawR (qL_law_721 k18 b z (z + 371) (J i) (HH h0 z w s w' m)) k18 b z i h0 w := by
  obtain ⟨a1, e1, b1⟩ := xs_ex xs (i + 1).toNat
  have r1 : ∀ s w' m K, rdI (HH h0 z w s w' m) b (J i + (1 : Int32)) K = K (J a1) := rd_1 (w := w) hb hs hi0 1 (by omega) e1
  have ad : J i + (6 : Int32) = J (i + 6) := J_add i 6
  obtain ⟨v, w2, s', m', p, q, hI'⟩ := law_step (qd := fun h => qD_restore z (J a1) h) (qm := fun h => qM_restore (z + 371) (J a1) h) hb (fun g g' hg => B_restore hg.1 hI b1)
  refine ⟨s', w2, m', hI', ?_⟩
  unfold qL_law_721 qL_law_1721
  rw [r1, isO_z, p, bI_r, r1, isO_y, q, bI_r, if_pos rfl, ad]
theorem law_744 (hb : GT h0 z) (hs : Scr h0 z b L xs) (hi0 : 0 ≤ i) (hiL : i + 6 ≤ L) (hI : Inv s m) : LawR (qL_law_744 k18 b z (z + 371) (J i) (HH h0 z w s w' m)) k18 b z i h0 w := by
  have ad : J i + (6 : Int32) = J (i + 6) := J_add i 6
  obtain ⟨v, w2, s', m', p, q, hI'⟩ := law_step (qd := fun h => qD_undo z h) (qm := fun h => qM_undo (z + 371) h) hb (fun g g' hg => B_undo hg.1 hI)
  refine ⟨s', w2, m', hI', ?_⟩
  unfold qL_law_744 qL_law_1721
  rw [isO_z, p, bI_r, isO_y, q, bI_r, if_pos rfl, ad]
theorem law_757 (hb : GT h0 z) (hs : Scr h0 z b L xs) (hi0 : 0 ≤ i) (hiL : i + 6 ≤ L) (hI : Inv s m) : LawR (qL_law_757 k18 b z (z + 371) (J i) (HH h0 z w s w' m)) k18 b z i h0 w := by
  obtain ⟨a1, e1, b1⟩ := xs_ex xs (i + 1).toNat
  have r1 : ∀ s w' m K, rdI (HH h0 z w s w' m) b (J i + (1 : Int32)) K = K (J a1) := rd_1 (w := w) hb hs hi0 1 (by omega) e1
  have ad : J i + (6 : Int32) = J (i + 6) := J_add i 6
  obtain ⟨v, w2, s', m', p, q, hI'⟩ := law_step (qd := fun h => qD_value z (J a1) h) (qm := fun h => qM_value (z + 371) (J a1) h) hb (fun g g' hg => B_value hI b1)
  refine ⟨s', w2, m', hI', ?_⟩
  unfold qL_law_757 qL_law_1721
  rw [r1, isO_z, p, bI_r, r1, isO_y, q, bI_r, if_pos rfl, ad]
theorem law_780 (hb : GT h0 z) (hs : Scr h0 z b L xs) (hi0 : 0 ≤ i) (hiL : i + 6 ≤ L) (hI : Inv s m) : LawR (qL_law_780 k18 b z (z + 371) (J i) (HH h0 z w s w' m)) k18 b z i h0 w := by
  obtain ⟨a1, e1, b1⟩ := xs_ex xs (i + 1).toNat
  have r1 : ∀ s w' m K, rdI (HH h0 z w s w' m) b (J i + (1 : Int32)) K = K (J a1) := rd_1 (w := w) hb hs hi0 1 (by omega) e1
  obtain ⟨a2, e2, b2⟩ := xs_ex xs (i + 2).toNat
  have r2 : ∀ s w' m K, rdI (HH h0 z w s w' m) b (J i + (2 : Int32)) K = K (J a2) := rd_1 (w := w) hb hs hi0 2 (by omega) e2
  have ad : J i + (6 : Int32) = J (i + 6) := J_add i 6
  obtain ⟨v, w2, s', m', p, q, hI'⟩ := law_step (qd := fun h => qD_line z (J a1) (J a2) h) (qm := fun h => qM_line (z + 371) (J a1) (J a2) h) hb (fun g g' hg => B_line hg.1 hI b1 b2)
  refine ⟨s', w2, m', hI', ?_⟩
  unfold qL_law_780 qL_law_1721
  rw [r1, r2, isO_z, p, bI_r, r1, r2, isO_y, q, bI_r, if_pos rfl, ad]
theorem law_813 (hb : GT h0 z) (hs : Scr h0 z b L xs) (hi0 : 0 ≤ i) (hiL : i + 6 ≤ L) (hI : Inv s m) : LawR (qL_law_813 k18 b z (z + 371) (J i) (HH h0 z w s w' m)) k18 b z i h0 w := by
  obtain ⟨a1, e1, b1⟩ := xs_ex xs (i + 1).toNat
  obtain ⟨a2, e2, b2⟩ := xs_ex xs (i + 2).toNat
  obtain ⟨a3, e3, b3⟩ := xs_ex xs (i + 3).toNat
  have r1 := rd_1 (w := w) hb hs hi0 1 (by omega) e1
  have r2 := rd_1 (w := w) hb hs hi0 2 (by omega) e2
  have r3 := rd_1 (w := w) hb hs hi0 3 (by omega) e3
  have ad : J i + (6 : Int32) = J (i + 6) := J_add i 6
  have go : ∀ v : Int, (v = 0 ∨ v = 1) → (v = 0 ↔ J a3 = (0 : Int32)) → LawR (qL_law_837 k18 b z (z + 371) (J i) (J v) (J a2) (J a1) z (HH h0 z w s w' m)) k18 b z i h0 w := fun v hv hv2 => by
    obtain ⟨v', w2, s', m', p, q, hI'⟩ := law_step (qd := fun h => qD_point z (J a1) (J a2) (J v) h) (qm := fun h => qM_point (z + 371) (J a1) (J a2) (J v) h) hb (fun g g' hg => B_point hI b1 b2 hv)
    refine ⟨s', w2, m', hI', ?_⟩
    unfold qL_law_837
    have r1' : ∀ s w' m K, rdI (HH h0 z w s w' m) b (J i + (1 : Int32)) K = K (J a1) := r1
    have r2' : ∀ s w' m K, rdI (HH h0 z w s w' m) b (J i + (2 : Int32)) K = K (J a2) := r2
    have r3' : ∀ s w' m K, rdI (HH h0 z w s w' m) b (J i + (3 : Int32)) K = K (J a3) := r3
    rw [isO_z, p, bI_r, r1', r2', r3']
    rcases hv with rfl | rfl
    · rw [if_pos (hv2.mp rfl)]
      have q' : qM_point (z + 371) (J a1) (J a2) (0 : Int32) (HH h0 z w s' w' m) = rI v' (HH h0 z w s' w2 m') := q
      unfold qL_law_864 qL_law_1721
      rw [isO_y, q', bI_r, if_pos rfl, ad]
    · rw [if_neg (fun x => absurd (hv2.mpr x) (by decide))]
      have q' : qM_point (z + 371) (J a1) (J a2) (1 : Int32) (HH h0 z w s' w' m) = rI v' (HH h0 z w s' w2 m') := q
      unfold qL_law_864 qL_law_1721
      rw [isO_y, q', bI_r, if_pos rfl, ad]
  have r1' : ∀ s w' m K, rdI (HH h0 z w s w' m) b (J i + (1 : Int32)) K = K (J a1) := r1
  have r2' : ∀ s w' m K, rdI (HH h0 z w s w' m) b (J i + (2 : Int32)) K = K (J a2) := r2
  have r3' : ∀ s w' m K, rdI (HH h0 z w s w' m) b (J i + (3 : Int32)) K = K (J a3) := r3
  unfold qL_law_813
  rw [r1', r2', r3']
  by_cases hz0 : J a3 = (0 : Int32)
  · rw [if_pos hz0]
    exact go 0 (Or.inl rfl) ⟨fun _ => hz0, fun _ => rfl⟩
  · rw [if_neg hz0]
    exact go 1 (Or.inr rfl) ⟨fun x => absurd x (by decide), fun x => absurd x hz0⟩
theorem law_872 (hb : GT h0 z) (hs : Scr h0 z b L xs) (hi0 : 0 ≤ i) (hiL : i + 6 ≤ L) (hI : Inv s m) : LawR (qL_law_872 k18 b z (z + 371) (J i) (HH h0 z w s w' m)) k18 b z i h0 w := by
  obtain ⟨a1, e1, b1⟩ := xs_ex xs (i + 1).toNat
  have r1 : ∀ s w' m K, rdI (HH h0 z w s w' m) b (J i + (1 : Int32)) K = K (J a1) := rd_1 (w := w) hb hs hi0 1 (by omega) e1
  obtain ⟨a2, e2, b2⟩ := xs_ex xs (i + 2).toNat
  have r2 : ∀ s w' m K, rdI (HH h0 z w s w' m) b (J i + (2 : Int32)) K = K (J a2) := rd_1 (w := w) hb hs hi0 2 (by omega) e2
  have ad : J i + (6 : Int32) = J (i + 6) := J_add i 6
  obtain ⟨v, w2, s', m', p, q, hI'⟩ := law_step (qd := fun h => qD_turn z (J a1) (J a2) h) (qm := fun h => qM_turn (z + 371) (J a1) (J a2) h) hb (fun g g' hg => B_turn hg.1 hI b1 b2)
  refine ⟨s', w2, m', hI', ?_⟩
  unfold qL_law_872 qL_law_1721
  rw [r1, r2, isO_z, p, bI_r, r1, r2, isO_y, q, bI_r, if_pos rfl, ad]
theorem law_905 (hb : GT h0 z) (hs : Scr h0 z b L xs) (hi0 : 0 ≤ i) (hiL : i + 6 ≤ L) (hI : Inv s m) : LawR (qL_law_905 k18 b z (z + 371) (J i) (HH h0 z w s w' m)) k18 b z i h0 w := by
  obtain ⟨a1, e1, b1⟩ := xs_ex xs (i + 1).toNat
  have r1 : ∀ s w' m K, rdI (HH h0 z w s w' m) b (J i + (1 : Int32)) K = K (J a1) := rd_1 (w := w) hb hs hi0 1 (by omega) e1
  obtain ⟨a2, e2, b2⟩ := xs_ex xs (i + 2).toNat
  have r2 : ∀ s w' m K, rdI (HH h0 z w s w' m) b (J i + (2 : Int32)) K = K (J a2) := rd_1 (w := w) hb hs hi0 2 (by omega) e2
  obtain ⟨a3, e3, b3⟩ := xs_ex xs (i + 3).toNat
  have r3 : ∀ s w' m K, rdI (HH h0 z w s w' m) b (J i + (3 : Int32)) K = K (J a3) := rd_1 (w := w) hb hs hi0 3 (by omega) e3
  have ad : J i + (6 : Int32) = J (i + 6) := J_add i 6
  obtain ⟨v, w2, s', m', p, q, hI'⟩ := law_step (qd := fun h => qD_station z (J a1) (J a2) (J a3) h) (qm := fun h => qM_station (z + 371) (J a1) (J a2) (J a3) h) hb (fun g g' hg => B_station hg.1 hI b1 b2 b3)
  refine ⟨s', w2, m', hI', ?_⟩
  unfold qL_law_905 qL_law_1721
  rw [r1, r2, r3, isO_z, p, bI_r, r1, r2, r3, isO_y, q, bI_r, if_pos rfl, ad]
theorem law_948 (hb : GT h0 z) (hs : Scr h0 z b L xs) (hi0 : 0 ≤ i) (hiL : i + 6 ≤ L) (hI : Inv s m) : LawR (qL_law_948 k18 b z (z + 371) (J i) (HH h0 z w s w' m)) k18 b z i h0 w := by
  obtain ⟨a1, e1, b1⟩ := xs_ex xs (i + 1).toNat
  have r1 : ∀ s w' m K, rdI (HH h0 z w s w' m) b (J i + (1 : Int32)) K = K (J a1) := rd_1 (w := w) hb hs hi0 1 (by omega) e1
  obtain ⟨a2, e2, b2⟩ := xs_ex xs (i + 2).toNat
  have r2 : ∀ s w' m K, rdI (HH h0 z w s w' m) b (J i + (2 : Int32)) K = K (J a2) := rd_1 (w := w) hb hs hi0 2 (by omega) e2
  have ad : J i + (6 : Int32) = J (i + 6) := J_add i 6
  obtain ⟨v, w2, s', m', p, q, hI'⟩ := law_step (qd := fun h => qD_at z (J a1) (J a2) h) (qm := fun h => qM_at (z + 371) (J a1) (J a2) h) hb (fun g g' hg => B_at hI b1 b2)
  refine ⟨s', w2, m', hI', ?_⟩
  unfold qL_law_948 qL_law_1721
  rw [r1, r2, isO_z, p, bI_r, r1, r2, isO_y, q, bI_r, if_pos rfl, ad]
theorem law_981 (hb : GT h0 z) (hs : Scr h0 z b L xs) (hi0 : 0 ≤ i) (hiL : i + 6 ≤ L) (hI : Inv s m) : LawR (qL_law_981 k18 b z (z + 371) (J i) (HH h0 z w s w' m)) k18 b z i h0 w := by
  obtain ⟨a1, e1, b1⟩ := xs_ex xs (i + 1).toNat
  have r1 : ∀ s w' m K, rdI (HH h0 z w s w' m) b (J i + (1 : Int32)) K = K (J a1) := rd_1 (w := w) hb hs hi0 1 (by omega) e1
  obtain ⟨a2, e2, b2⟩ := xs_ex xs (i + 2).toNat
  have r2 : ∀ s w' m K, rdI (HH h0 z w s w' m) b (J i + (2 : Int32)) K = K (J a2) := rd_1 (w := w) hb hs hi0 2 (by omega) e2
  have ad : J i + (6 : Int32) = J (i + 6) := J_add i 6
  obtain ⟨v, w2, s', m', p, q, hI'⟩ := law_step (qd := fun h => qD_linesAt z (J a1) (J a2) h) (qm := fun h => qM_linesAt (z + 371) (J a1) (J a2) h) hb (fun g g' hg => B_linesAt hI b1 b2)
  refine ⟨s', w2, m', hI', ?_⟩
  unfold qL_law_981 qL_law_1721
  rw [r1, r2, isO_z, p, bI_r, r1, r2, isO_y, q, bI_r, if_pos rfl, ad]
theorem law_1014 (hb : GT h0 z) (hs : Scr h0 z b L xs) (hi0 : 0 ≤ i) (hiL : i + 6 ≤ L) (hI : Inv s m) : LawR (qL_law_1014 k18 b z (z + 371) (J i) (HH h0 z w s w' m)) k18 b z i h0 w := by
  obtain ⟨a1, e1, b1⟩ := xs_ex xs (i + 1).toNat
  have r1 : ∀ s w' m K, rdI (HH h0 z w s w' m) b (J i + (1 : Int32)) K = K (J a1) := rd_1 (w := w) hb hs hi0 1 (by omega) e1
  have ad : J i + (6 : Int32) = J (i + 6) := J_add i 6
  obtain ⟨v, w2, s', m', p, q, hI'⟩ := law_step (qd := fun h => qD_uneven z (J a1) h) (qm := fun h => qM_uneven (z + 371) (J a1) h) hb (fun g g' hg => B_uneven hI b1)
  refine ⟨s', w2, m', hI', ?_⟩
  unfold qL_law_1014 qL_law_1721
  rw [r1, isO_z, p, bI_r, r1, isO_y, q, bI_r, if_pos rfl, ad]
theorem law_1037 (hb : GT h0 z) (hs : Scr h0 z b L xs) (hi0 : 0 ≤ i) (hiL : i + 6 ≤ L) (hI : Inv s m) : LawR (qL_law_1037 k18 b z (z + 371) (J i) (HH h0 z w s w' m)) k18 b z i h0 w := by
  have ad : J i + (6 : Int32) = J (i + 6) := J_add i 6
  obtain ⟨v, w2, s', m', p, q, hI'⟩ := law_step (qd := fun h => qD_crookedest z h) (qm := fun h => qM_crookedest (z + 371) h) hb (fun g g' hg => B_crookedest hg.1 hI)
  refine ⟨s', w2, m', hI', ?_⟩
  unfold qL_law_1037 qL_law_1721
  rw [isO_z, p, bI_r, isO_y, q, bI_r, if_pos rfl, ad]
theorem law_1050 (hb : GT h0 z) (hs : Scr h0 z b L xs) (hi0 : 0 ≤ i) (hiL : i + 6 ≤ L) (hI : Inv s m) : LawR (qL_law_1050 k18 b z (z + 371) (J i) (HH h0 z w s w' m)) k18 b z i h0 w := by
  obtain ⟨a1, e1, b1⟩ := xs_ex xs (i + 1).toNat
  have r1 : ∀ s w' m K, rdI (HH h0 z w s w' m) b (J i + (1 : Int32)) K = K (J a1) := rd_1 (w := w) hb hs hi0 1 (by omega) e1
  obtain ⟨a2, e2, b2⟩ := xs_ex xs (i + 2).toNat
  have r2 : ∀ s w' m K, rdI (HH h0 z w s w' m) b (J i + (2 : Int32)) K = K (J a2) := rd_1 (w := w) hb hs hi0 2 (by omega) e2
  have ad : J i + (6 : Int32) = J (i + 6) := J_add i 6
  obtain ⟨v, w2, s', m', p, q, hI'⟩ := law_step (qd := fun h => qD_nearest z (J a1) (J a2) h) (qm := fun h => qM_nearest (z + 371) (J a1) (J a2) h) hb (fun g g' hg => B_nearest hI b1 b2)
  refine ⟨s', w2, m', hI', ?_⟩
  unfold qL_law_1050 qL_law_1721
  rw [r1, r2, isO_z, p, bI_r, r1, r2, isO_y, q, bI_r, if_pos rfl, ad]
theorem law_1083 (hb : GT h0 z) (hs : Scr h0 z b L xs) (hi0 : 0 ≤ i) (hiL : i + 6 ≤ L) (hI : Inv s m) : LawR (qL_law_1083 k18 b z (z + 371) (J i) (HH h0 z w s w' m)) k18 b z i h0 w := by
  obtain ⟨a1, e1, b1⟩ := xs_ex xs (i + 1).toNat
  have r1 : ∀ s w' m K, rdI (HH h0 z w s w' m) b (J i + (1 : Int32)) K = K (J a1) := rd_1 (w := w) hb hs hi0 1 (by omega) e1
  obtain ⟨a2, e2, b2⟩ := xs_ex xs (i + 2).toNat
  have r2 : ∀ s w' m K, rdI (HH h0 z w s w' m) b (J i + (2 : Int32)) K = K (J a2) := rd_1 (w := w) hb hs hi0 2 (by omega) e2
  obtain ⟨a3, e3, b3⟩ := xs_ex xs (i + 3).toNat
  have r3 : ∀ s w' m K, rdI (HH h0 z w s w' m) b (J i + (3 : Int32)) K = K (J a3) := rd_1 (w := w) hb hs hi0 3 (by omega) e3
  have ad : J i + (6 : Int32) = J (i + 6) := J_add i 6
  obtain ⟨v, w2, s', m', p, q, hI'⟩ := law_step (qd := fun h => qD_both z (J a1) (J a2) (J a3) h) (qm := fun h => qM_both (z + 371) (J a1) (J a2) (J a3) h) hb (fun g g' hg => B_both hI b1 b2 b3)
  refine ⟨s', w2, m', hI', ?_⟩
  unfold qL_law_1083 qL_law_1721
  rw [r1, r2, r3, isO_z, p, bI_r, r1, r2, r3, isO_y, q, bI_r, if_pos rfl, ad]
theorem law_1126 (hb : GT h0 z) (hs : Scr h0 z b L xs) (hi0 : 0 ≤ i) (hiL : i + 6 ≤ L) (hI : Inv s m) : LawR (qL_law_1126 k18 b z (z + 371) (J i) (HH h0 z w s w' m)) k18 b z i h0 w := by
  obtain ⟨a1, e1, b1⟩ := xs_ex xs (i + 1).toNat
  have r1 : ∀ s w' m K, rdI (HH h0 z w s w' m) b (J i + (1 : Int32)) K = K (J a1) := rd_1 (w := w) hb hs hi0 1 (by omega) e1
  have ad : J i + (6 : Int32) = J (i + 6) := J_add i 6
  obtain ⟨v, w2, s', m', p, q, hI'⟩ := law_step (qd := fun h => qD_crossing z (J a1) h) (qm := fun h => qM_crossing (z + 371) (J a1) h) hb (fun g g' hg => B_crossing hI b1)
  refine ⟨s', w2, m', hI', ?_⟩
  unfold qL_law_1126 qL_law_1721
  rw [r1, isO_z, p, bI_r, r1, isO_y, q, bI_r, if_pos rfl, ad]
theorem law_1149 (hb : GT h0 z) (hs : Scr h0 z b L xs) (hi0 : 0 ≤ i) (hiL : i + 6 ≤ L) (hI : Inv s m) : LawR (qL_law_1149 k18 b z (z + 371) (J i) (HH h0 z w s w' m)) k18 b z i h0 w := by
  obtain ⟨a1, e1, b1⟩ := xs_ex xs (i + 1).toNat
  have r1 : ∀ s w' m K, rdI (HH h0 z w s w' m) b (J i + (1 : Int32)) K = K (J a1) := rd_1 (w := w) hb hs hi0 1 (by omega) e1
  obtain ⟨a2, e2, b2⟩ := xs_ex xs (i + 2).toNat
  have r2 : ∀ s w' m K, rdI (HH h0 z w s w' m) b (J i + (2 : Int32)) K = K (J a2) := rd_1 (w := w) hb hs hi0 2 (by omega) e2
  obtain ⟨a3, e3, b3⟩ := xs_ex xs (i + 3).toNat
  have r3 : ∀ s w' m K, rdI (HH h0 z w s w' m) b (J i + (3 : Int32)) K = K (J a3) := rd_1 (w := w) hb hs hi0 3 (by omega) e3
  obtain ⟨a4, e4, b4⟩ := xs_ex xs (i + 4).toNat
  have r4 : ∀ s w' m K, rdI (HH h0 z w s w' m) b (J i + (4 : Int32)) K = K (J a4) := rd_1 (w := w) hb hs hi0 4 (by omega) e4
  have ad : J i + (6 : Int32) = J (i + 6) := J_add i 6
  obtain ⟨v, w2, s', m', p, q, hI'⟩ := law_step (qd := fun h => qD_rides z (J a1) (J a2) (J a3) (J a4) h) (qm := fun h => qM_rides (z + 371) (J a1) (J a2) (J a3) (J a4) h) hb (fun g g' hg => B_rides hI b1 b2 b3 b4)
  refine ⟨s', w2, m', hI', ?_⟩
  unfold qL_law_1149 qL_law_1721
  rw [r1, r2, r3, r4, isO_z, p, bI_r, r1, r2, r3, r4, isO_y, q, bI_r, if_pos rfl, ad]
theorem law_1202 (hb : GT h0 z) (hs : Scr h0 z b L xs) (hi0 : 0 ≤ i) (hiL : i + 6 ≤ L) (hI : Inv s m) : LawR (qL_law_1202 k18 b z (z + 371) (J i) (HH h0 z w s w' m)) k18 b z i h0 w := by
  obtain ⟨a1, e1, b1⟩ := xs_ex xs (i + 1).toNat
  have r1 : ∀ s w' m K, rdI (HH h0 z w s w' m) b (J i + (1 : Int32)) K = K (J a1) := rd_1 (w := w) hb hs hi0 1 (by omega) e1
  obtain ⟨a2, e2, b2⟩ := xs_ex xs (i + 2).toNat
  have r2 : ∀ s w' m K, rdI (HH h0 z w s w' m) b (J i + (2 : Int32)) K = K (J a2) := rd_1 (w := w) hb hs hi0 2 (by omega) e2
  obtain ⟨a3, e3, b3⟩ := xs_ex xs (i + 3).toNat
  have r3 : ∀ s w' m K, rdI (HH h0 z w s w' m) b (J i + (3 : Int32)) K = K (J a3) := rd_1 (w := w) hb hs hi0 3 (by omega) e3
  obtain ⟨a4, e4, b4⟩ := xs_ex xs (i + 4).toNat
  have r4 : ∀ s w' m K, rdI (HH h0 z w s w' m) b (J i + (4 : Int32)) K = K (J a4) := rd_1 (w := w) hb hs hi0 4 (by omega) e4
  have ad : J i + (6 : Int32) = J (i + 6) := J_add i 6
  obtain ⟨v, w2, s', m', p, q, hI'⟩ := law_step (qd := fun h => qD_changes z (J a1) (J a2) (J a3) (J a4) h) (qm := fun h => qM_changes (z + 371) (J a1) (J a2) (J a3) (J a4) h) hb (fun g g' hg => B_changes hI b1 b2 b3 b4)
  refine ⟨s', w2, m', hI', ?_⟩
  unfold qL_law_1202 qL_law_1721
  rw [r1, r2, r3, r4, isO_z, p, bI_r, r1, r2, r3, r4, isO_y, q, bI_r, if_pos rfl, ad]
theorem law_1255 (hb : GT h0 z) (hs : Scr h0 z b L xs) (hi0 : 0 ≤ i) (hiL : i + 6 ≤ L) (hI : Inv s m) : LawR (qL_law_1255 k18 b z (z + 371) (J i) (HH h0 z w s w' m)) k18 b z i h0 w := by
  obtain ⟨a1, e1, b1⟩ := xs_ex xs (i + 1).toNat
  have r1 : ∀ s w' m K, rdI (HH h0 z w s w' m) b (J i + (1 : Int32)) K = K (J a1) := rd_1 (w := w) hb hs hi0 1 (by omega) e1
  obtain ⟨a2, e2, b2⟩ := xs_ex xs (i + 2).toNat
  have r2 : ∀ s w' m K, rdI (HH h0 z w s w' m) b (J i + (2 : Int32)) K = K (J a2) := rd_1 (w := w) hb hs hi0 2 (by omega) e2
  have ad : J i + (6 : Int32) = J (i + 6) := J_add i 6
  obtain ⟨v, w2, s', m', p, q, hI'⟩ := law_step (qd := fun h => qD_position z (J a1) (J a2) h) (qm := fun h => qM_position (z + 371) (J a1) (J a2) h) hb (fun g g' hg => B_position hI b1 b2)
  refine ⟨s', w2, m', hI', ?_⟩
  unfold qL_law_1255 qL_law_1721
  rw [r1, r2, isO_z, p, bI_r, r1, r2, isO_y, q, bI_r, if_pos rfl, ad]
theorem law_1288 (hb : GT h0 z) (hs : Scr h0 z b L xs) (hi0 : 0 ≤ i) (hiL : i + 6 ≤ L) (hI : Inv s m) : LawR (qL_law_1288 k18 b z (z + 371) (J i) (HH h0 z w s w' m)) k18 b z i h0 w := by
  obtain ⟨a1, e1, b1⟩ := xs_ex xs (i + 1).toNat
  have r1 : ∀ s w' m K, rdI (HH h0 z w s w' m) b (J i + (1 : Int32)) K = K (J a1) := rd_1 (w := w) hb hs hi0 1 (by omega) e1
  obtain ⟨a2, e2, b2⟩ := xs_ex xs (i + 2).toNat
  have r2 : ∀ s w' m K, rdI (HH h0 z w s w' m) b (J i + (2 : Int32)) K = K (J a2) := rd_1 (w := w) hb hs hi0 2 (by omega) e2
  obtain ⟨a3, e3, b3⟩ := xs_ex xs (i + 3).toNat
  have r3 : ∀ s w' m K, rdI (HH h0 z w s w' m) b (J i + (3 : Int32)) K = K (J a3) := rd_1 (w := w) hb hs hi0 3 (by omega) e3
  have ad : J i + (6 : Int32) = J (i + 6) := J_add i 6
  obtain ⟨v, w2, s', m', p, q, hI'⟩ := law_step (qd := fun h => qD_why z (J a1) (J a2) (J a3) h) (qm := fun h => qM_why (z + 371) (J a1) (J a2) (J a3) h) hb (fun g g' hg => B_why hI b1 b2 b3)
  refine ⟨s', w2, m', hI', ?_⟩
  unfold qL_law_1288 qL_law_1721
  rw [r1, r2, r3, isO_z, p, bI_r, r1, r2, r3, isO_y, q, bI_r, if_pos rfl, ad]
theorem law_1331 (hb : GT h0 z) (hs : Scr h0 z b L xs) (hi0 : 0 ≤ i) (hiL : i + 6 ≤ L) (hI : Inv s m) : LawR (qL_law_1331 k18 b z (z + 371) (J i) (HH h0 z w s w' m)) k18 b z i h0 w := by
  obtain ⟨a1, e1, b1⟩ := xs_ex xs (i + 1).toNat
  have r1 : ∀ s w' m K, rdI (HH h0 z w s w' m) b (J i + (1 : Int32)) K = K (J a1) := rd_1 (w := w) hb hs hi0 1 (by omega) e1
  obtain ⟨a2, e2, b2⟩ := xs_ex xs (i + 2).toNat
  have r2 : ∀ s w' m K, rdI (HH h0 z w s w' m) b (J i + (2 : Int32)) K = K (J a2) := rd_1 (w := w) hb hs hi0 2 (by omega) e2
  have ad : J i + (6 : Int32) = J (i + 6) := J_add i 6
  obtain ⟨v, w2, s', m', p, q, hI'⟩ := law_step (qd := fun h => qD_free z (J a1) (J a2) h) (qm := fun h => qM_free (z + 371) (J a1) (J a2) h) hb (fun g g' hg => B_free hI b1 b2)
  refine ⟨s', w2, m', hI', ?_⟩
  unfold qL_law_1331 qL_law_1721
  rw [r1, r2, isO_z, p, bI_r, r1, r2, isO_y, q, bI_r, if_pos rfl, ad]
theorem law_1364 (hb : GT h0 z) (hs : Scr h0 z b L xs) (hi0 : 0 ≤ i) (hiL : i + 6 ≤ L) (hI : Inv s m) : LawR (qL_law_1364 k18 b z (z + 371) (J i) (HH h0 z w s w' m)) k18 b z i h0 w := by
  obtain ⟨a1, e1, b1⟩ := xs_ex xs (i + 1).toNat
  have r1 : ∀ s w' m K, rdI (HH h0 z w s w' m) b (J i + (1 : Int32)) K = K (J a1) := rd_1 (w := w) hb hs hi0 1 (by omega) e1
  obtain ⟨a2, e2, b2⟩ := xs_ex xs (i + 2).toNat
  have r2 : ∀ s w' m K, rdI (HH h0 z w s w' m) b (J i + (2 : Int32)) K = K (J a2) := rd_1 (w := w) hb hs hi0 2 (by omega) e2
  have ad : J i + (6 : Int32) = J (i + 6) := J_add i 6
  obtain ⟨v, w2, s', m', p, q, hI'⟩ := law_step (qd := fun h => qD_labelAt z (J a1) (J a2) h) (qm := fun h => qM_labelAt (z + 371) (J a1) (J a2) h) hb (fun g g' hg => B_labelAt hI b1 b2)
  refine ⟨s', w2, m', hI', ?_⟩
  unfold qL_law_1364 qL_law_1721
  rw [r1, r2, isO_z, p, bI_r, r1, r2, isO_y, q, bI_r, if_pos rfl, ad]
theorem law_1397 (hb : GT h0 z) (hs : Scr h0 z b L xs) (hi0 : 0 ≤ i) (hiL : i + 6 ≤ L) (hI : Inv s m) : LawR (qL_law_1397 k18 b z (z + 371) (J i) (HH h0 z w s w' m)) k18 b z i h0 w := by
  have ad : J i + (6 : Int32) = J (i + 6) := J_add i 6
  obtain ⟨v, w2, s', m', p, q, hI'⟩ := law_step (qd := fun h => qD_stuck z h) (qm := fun h => qM_stuck (z + 371) h) hb (fun g g' hg => B_stuck hI)
  refine ⟨s', w2, m', hI', ?_⟩
  unfold qL_law_1397 qL_law_1721
  rw [isO_z, p, bI_r, isO_y, q, bI_r, if_pos rfl, ad]
theorem law_1410 (hb : GT h0 z) (hs : Scr h0 z b L xs) (hi0 : 0 ≤ i) (hiL : i + 6 ≤ L) (hI : Inv s m) : LawR (qL_law_1410 k18 b z (z + 371) (J i) (HH h0 z w s w' m)) k18 b z i h0 w := by
  obtain ⟨a1, e1, b1⟩ := xs_ex xs (i + 1).toNat
  have r1 : ∀ s w' m K, rdI (HH h0 z w s w' m) b (J i + (1 : Int32)) K = K (J a1) := rd_1 (w := w) hb hs hi0 1 (by omega) e1
  obtain ⟨a2, e2, b2⟩ := xs_ex xs (i + 2).toNat
  have r2 : ∀ s w' m K, rdI (HH h0 z w s w' m) b (J i + (2 : Int32)) K = K (J a2) := rd_1 (w := w) hb hs hi0 2 (by omega) e2
  obtain ⟨a3, e3, b3⟩ := xs_ex xs (i + 3).toNat
  have r3 : ∀ s w' m K, rdI (HH h0 z w s w' m) b (J i + (3 : Int32)) K = K (J a3) := rd_1 (w := w) hb hs hi0 3 (by omega) e3
  obtain ⟨a4, e4, b4⟩ := xs_ex xs (i + 4).toNat
  have r4 : ∀ s w' m K, rdI (HH h0 z w s w' m) b (J i + (4 : Int32)) K = K (J a4) := rd_1 (w := w) hb hs hi0 4 (by omega) e4
  obtain ⟨a5, e5, b5⟩ := xs_ex xs (i + 5).toNat
  have r5 : ∀ s w' m K, rdI (HH h0 z w s w' m) b (J i + (5 : Int32)) K = K (J a5) := rd_1 (w := w) hb hs hi0 5 (by omega) e5
  have ad : J i + (6 : Int32) = J (i + 6) := J_add i 6
  obtain ⟨v, w2, s', m', p, q, hI'⟩ := law_step (qd := fun h => qD_ifMoved z (J a1) (J a2) (J a3) (J a4) (J a5) h) (qm := fun h => qM_ifMoved (z + 371) (J a1) (J a2) (J a3) (J a4) (J a5) h) hb (fun g g' hg => B_ifMoved hg.1 hI b1 b2 b3 b4 b5)
  refine ⟨s', w2, m', hI', ?_⟩
  unfold qL_law_1410 qL_law_1721
  rw [r1, r2, r3, r4, r5, isO_z, p, bI_r, r1, r2, r3, r4, r5, isO_y, q, bI_r, if_pos rfl, ad]
theorem law_1473 (hb : GT h0 z) (hs : Scr h0 z b L xs) (hi0 : 0 ≤ i) (hiL : i + 6 ≤ L) (hI : Inv s m) : LawR (qL_law_1473 k18 b z (z + 371) (J i) (HH h0 z w s w' m)) k18 b z i h0 w := by
  obtain ⟨a1, e1, b1⟩ := xs_ex xs (i + 1).toNat
  have r1 : ∀ s w' m K, rdI (HH h0 z w s w' m) b (J i + (1 : Int32)) K = K (J a1) := rd_1 (w := w) hb hs hi0 1 (by omega) e1
  obtain ⟨a2, e2, b2⟩ := xs_ex xs (i + 2).toNat
  have r2 : ∀ s w' m K, rdI (HH h0 z w s w' m) b (J i + (2 : Int32)) K = K (J a2) := rd_1 (w := w) hb hs hi0 2 (by omega) e2
  have ad : J i + (6 : Int32) = J (i + 6) := J_add i 6
  obtain ⟨v, w2, s', m', p, q, hI'⟩ := law_step (qd := fun h => qD_bestMove z (J a1) (J a2) h) (qm := fun h => qM_bestMove (z + 371) (J a1) (J a2) h) hb (fun g g' hg => B_bestMove hg.1 hI b1 b2)
  refine ⟨s', w2, m', hI', ?_⟩
  unfold qL_law_1473 qL_law_1721
  rw [r1, r2, isO_z, p, bI_r, r1, r2, isO_y, q, bI_r, if_pos rfl, ad]
theorem law_1506 (hb : GT h0 z) (hs : Scr h0 z b L xs) (hi0 : 0 ≤ i) (hiL : i + 6 ≤ L) (hI : Inv s m) : LawR (qL_law_1506 k18 b z (z + 371) (J i) (HH h0 z w s w' m)) k18 b z i h0 w := by
  have ad : J i + (6 : Int32) = J (i + 6) := J_add i 6
  obtain ⟨v, w2, s', m', p, q, hI'⟩ := law_step (qd := fun h => qD_couldLabel z h) (qm := fun h => qM_couldLabel (z + 371) h) hb (fun g g' hg => B_couldLabel hg.1 hI)
  refine ⟨s', w2, m', hI', ?_⟩
  unfold qL_law_1506 qL_law_1721
  rw [isO_z, p, bI_r, isO_y, q, bI_r, if_pos rfl, ad]
theorem law_1519 (hb : GT h0 z) (hs : Scr h0 z b L xs) (hi0 : 0 ≤ i) (hiL : i + 6 ≤ L) (hI : Inv s m) : LawR (qL_law_1519 k18 b z (z + 371) (J i) (HH h0 z w s w' m)) k18 b z i h0 w := by
  obtain ⟨a1, e1, b1⟩ := xs_ex xs (i + 1).toNat
  have r1 : ∀ s w' m K, rdI (HH h0 z w s w' m) b (J i + (1 : Int32)) K = K (J a1) := rd_1 (w := w) hb hs hi0 1 (by omega) e1
  have ad : J i + (6 : Int32) = J (i + 6) := J_add i 6
  obtain ⟨v, w2, s', m', p, q, hI', hok⟩ := law_stepF (qd := fun h => qD_meanGap z (J a1) h) (qm := fun h => qM_meanGap (z + 371) (J a1) h) hb (fun g g' hg => B_meanGap hI b1)
  refine ⟨s', w2, m', hI', ?_⟩
  unfold qL_law_1519 qL_law_1721
  obtain ⟨ok1, ok2⟩ := hok
  have f2 : ∀ K, f2dv v K = K (FP.f2d v) := fun K => if_pos ok1
  rw [r1, isO_z, p, bF_r, f2, r1, isO_y, q, bF_r, f2, if_pos ok2, ad]
theorem law_1572 (hb : GT h0 z) (hs : Scr h0 z b L xs) (hi0 : 0 ≤ i) (hiL : i + 6 ≤ L) (hI : Inv s m) : LawR (qL_law_1572 k18 b z (z + 371) (J i) (HH h0 z w s w' m)) k18 b z i h0 w := by
  have ad : J i + (6 : Int32) = J (i + 6) := J_add i 6
  obtain ⟨v, w2, s', m', p, q, hI', hok⟩ := law_stepD (qd := fun h => qD_labelled z h) (qm := fun h => qM_labelled (z + 371) h) hb (fun g g' hg => B_labelled hI)
  refine ⟨s', w2, m', hI', ?_⟩
  unfold qL_law_1572 qL_law_1721
  rw [isO_z, p]
  show isO _ _ _ _ = _
  rw [isO_y, q]
  show (if _ then _ else _) = _
  have hok2 : Op.cmpValue (FP.dcmp v v) .l = (0 : Int32) := hok
  rw [if_pos hok2, ad]
theorem law_1613 (hb : GT h0 z) (hs : Scr h0 z b L xs) (hi0 : 0 ≤ i) (hiL : i + 6 ≤ L) (hI : Inv s m) : LawR (qL_law_1613 k18 b z (z + 371) (J i) (HH h0 z w s w' m)) k18 b z i h0 w := by
  obtain ⟨a1, e1, b1⟩ := xs_ex xs (i + 1).toNat
  have r1 : ∀ s w' m K, rdI (HH h0 z w s w' m) b (J i + (1 : Int32)) K = K (J a1) := rd_1 (w := w) hb hs hi0 1 (by omega) e1
  have ad : J i + (6 : Int32) = J (i + 6) := J_add i 6
  obtain ⟨v, w2, s', m', p, q, hI'⟩ := law_step (qd := fun h => qD_named z (J a1) h) (qm := fun h => qM_named (z + 371) (J a1) h) hb (fun g g' hg => B_named hI b1)
  refine ⟨s', w2, m', hI', ?_⟩
  unfold qL_law_1613 qL_law_1721
  rw [r1, isO_z, p, bI_r, r1, isO_y, q, bI_r, if_pos rfl, ad]
theorem law_1636 (hb : GT h0 z) (hs : Scr h0 z b L xs) (hi0 : 0 ≤ i) (hiL : i + 6 ≤ L) (hI : Inv s m) : LawR (qL_law_1636 k18 b z (z + 371) (J i) (HH h0 z w s w' m)) k18 b z i h0 w := by
  have ad : J i + (6 : Int32) = J (i + 6) := J_add i 6
  obtain ⟨v, w2, s', m', p, q, hI'⟩ := law_step (qd := fun h => qD_pictureLength z h) (qm := fun h => qM_pictureLength (z + 371) h) hb (fun g g' hg => B_pictureLength hI)
  refine ⟨s', w2, m', hI', ?_⟩
  unfold qL_law_1636 qL_law_1721
  rw [isO_z, p, bI_r, isO_y, q, bI_r, if_pos rfl, ad]
theorem law_1649 (hb : GT h0 z) (hs : Scr h0 z b L xs) (hi0 : 0 ≤ i) (hiL : i + 6 ≤ L) (hI : Inv s m) : LawR (qL_law_1649 k18 b z (z + 371) (J i) (HH h0 z w s w' m)) k18 b z i h0 w := by
  obtain ⟨a1, e1, b1⟩ := xs_ex xs (i + 1).toNat
  have r1 : ∀ s w' m K, rdI (HH h0 z w s w' m) b (J i + (1 : Int32)) K = K (J a1) := rd_1 (w := w) hb hs hi0 1 (by omega) e1
  have ad : J i + (6 : Int32) = J (i + 6) := J_add i 6
  obtain ⟨v, w2, s', m', p, q, hI'⟩ := law_step (qd := fun h => qD_pictureByte z (J a1) h) (qm := fun h => qM_pictureByte (z + 371) (J a1) h) hb (fun g g' hg => B_pictureByte hI b1)
  refine ⟨s', w2, m', hI', ?_⟩
  unfold qL_law_1649 qL_law_1721
  rw [r1, isO_z, p, bI_r, r1, isO_y, q, bI_r, if_pos rfl, ad]
theorem law_1672 (hb : GT h0 z) (hs : Scr h0 z b L xs) (hi0 : 0 ≤ i) (hiL : i + 6 ≤ L) (hI : Inv s m) : LawR (qL_law_1672 k18 b z (z + 371) (J i) (HH h0 z w s w' m)) k18 b z i h0 w := by
  have ad : J i + (6 : Int32) = J (i + 6) := J_add i 6
  obtain ⟨v, w2, s', m', p, q, hI'⟩ := law_step (qd := fun h => qD_setupLength z h) (qm := fun h => qM_setupLength (z + 371) h) hb (fun g g' hg => B_setupLength hg hI)
  refine ⟨s', w2, m', hI', ?_⟩
  unfold qL_law_1672 qL_law_1721
  rw [isO_z, p, bI_r, isO_y, q, bI_r, if_pos rfl, ad]
theorem law_1685 (hb : GT h0 z) (hs : Scr h0 z b L xs) (hi0 : 0 ≤ i) (hiL : i + 6 ≤ L) (hI : Inv s m) : LawR (qL_law_1685 k18 b z (z + 371) (J i) (HH h0 z w s w' m)) k18 b z i h0 w := by
  obtain ⟨a1, e1, b1⟩ := xs_ex xs (i + 1).toNat
  have r1 : ∀ s w' m K, rdI (HH h0 z w s w' m) b (J i + (1 : Int32)) K = K (J a1) := rd_1 (w := w) hb hs hi0 1 (by omega) e1
  have ad : J i + (6 : Int32) = J (i + 6) := J_add i 6
  obtain ⟨v, w2, s', m', p, q, hI'⟩ := law_step (qd := fun h => qD_setupByte z (J a1) h) (qm := fun h => qM_setupByte (z + 371) (J a1) h) hb (fun g g' hg => B_setupByte hg hI b1)
  refine ⟨s', w2, m', hI', ?_⟩
  unfold qL_law_1685 qL_law_1721
  rw [r1, isO_z, p, bI_r, r1, isO_y, q, bI_r, if_pos rfl, ad]
theorem law_1708 (hb : GT h0 z) (hs : Scr h0 z b L xs) (hi0 : 0 ≤ i) (hiL : i + 6 ≤ L) (hI : Inv s m) : LawR (qL_law_1708 k18 b z (z + 371) (J i) (HH h0 z w s w' m)) k18 b z i h0 w := by
  have ad : J i + (6 : Int32) = J (i + 6) := J_add i 6
  obtain ⟨v, w2, s', m', p, q, hI'⟩ := law_step (qd := fun h => qD_tapeLength z h) (qm := fun h => qM_tapeLength (z + 371) h) hb (fun g g' hg => B_tapeLength hI)
  refine ⟨s', w2, m', hI', ?_⟩
  unfold qL_law_1708 qL_law_1721
  rw [isO_z, p, bI_r, isO_y, q, bI_r, if_pos rfl, ad]
end LAW2
