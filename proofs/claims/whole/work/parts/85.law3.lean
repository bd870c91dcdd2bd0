/-! the law, call by call -/
section LAW3
set_option maxHeartbeats 100000
variable {z y : Nat} {g g' : XH} {w w' : Int64} {s s' s0 s1 s2 m m' m0 m1 m2 : CT} {G W W' V W1 row row' r0 nm lo lg sn f : Int → Int} {wd hg mt c i j l n p v t k x xx yy N q o to : Int} {a b : Nat} {h : XH}
variable {k r u e d lw up st nv zv tv E L : Int} {w1 w2 w3 : Int64} {h0 : XH} {xs : Nat → Int32} {qd qm : XH → XR} {X Y : XR} {k18 : Nat → Nat → Nat → Int32 → XH → XR}
theorem law_ite {c : Prop} [Decidable c] (h1 : LawR X k18 b z i h0 w) (h2 : LawR Y k18 b z i h0 w) : LawR (if c then X else Y) k18 b z i h0 w := by
  split
  · exact h1
  · exact h2
theorem law_1721 (hI : Inv s m) : LawR (qL_law_1721 k18 b z (z + 371) (J i) (HH h0 z w s w' m)) k18 b z i h0 w := by
  have ad : J i + (6 : Int32) = J (i + 6) := J_add i 6
  refine ⟨s, w', m, hI, ?_⟩
  unfold qL_law_1721
  rw [ad]
theorem law_body (hb : GT h0 z) (hs : Scr h0 z b L xs) (hi0 : 0 ≤ i) (hiL : i + 6 ≤ L) (hI : Inv s m) (v2 : Int32) : LawR (if (v2 &&& (63 : Int32)) = (0 : Int32) then (qL_law_236 k18 b z (z + 371) (J i) (HH h0 z w s w' m)) else if (v2 &&& (63 : Int32)) = (1 : Int32) then (qL_law_299 k18 b z (z + 371) (J i) (HH h0 z w s w' m)) else if (v2 &&& (63 : Int32)) = (2 : Int32) then (qL_law_322 k18 b z (z + 371) (J i) (HH h0 z w s w' m)) else if (v2 &&& (63 : Int32)) = (3 : Int32) then (qL_law_335 k18 b z (z + 371) (J i) (HH h0 z w s w' m)) else if (v2 &&& (63 : Int32)) = (4 : Int32) then (qL_law_348 k18 b z (z + 371) (J i) (HH h0 z w s w' m)) else if (v2 &&& (63 : Int32)) = (5 : Int32) then (qL_law_401 k18 b z (z + 371) (J i) (HH h0 z w s w' m)) else if (v2 &&& (63 : Int32)) = (6 : Int32) then (qL_law_454 k18 b z (z + 371) (J i) (HH h0 z w s w' m)) else if (v2 &&& (63 : Int32)) = (7 : Int32) then (qL_law_487 k18 b z (z + 371) (J i) (HH h0 z w s w' m)) else if (v2 &&& (63 : Int32)) = (8 : Int32) then (qL_law_510 k18 b z (z + 371) (J i) (HH h0 z w s w' m)) else if (v2 &&& (63 : Int32)) = (9 : Int32) then (qL_law_543 k18 b z (z + 371) (J i) (HH h0 z w s w' m)) else if (v2 &&& (63 : Int32)) = (10 : Int32) then (qL_law_576 k18 b z (z + 371) (J i) (HH h0 z w s w' m)) else if (v2 &&& (63 : Int32)) = (11 : Int32) then (qL_law_619 k18 b z (z + 371) (J i) (HH h0 z w s w' m)) else if (v2 &&& (63 : Int32)) = (12 : Int32) then (qL_law_652 k18 b z (z + 371) (J i) (HH h0 z w s w' m)) else if (v2 &&& (63 : Int32)) = (13 : Int32) then (qL_law_685 k18 b z (z + 371) (J i) (HH h0 z w s w' m)) else if (v2 &&& (63 : Int32)) = (14 : Int32) then (qL_law_698 k18 b z (z + 371) (J i) (HH h0 z w s w' m)) else if (v2 &&& (63 : Int32)) = (15 : Int32) then (qL_law_721 k18 b z (z + 371) (J i) (HH h0 z w s w' m)) else if (v2 &&& (63 : Int32)) = (16 : Int32) then (qL_law_744 k18 b z (z + 371) (J i) (HH h0 z w s w' m)) else if (v2 &&& (63 : Int32)) = (17 : Int32) then (qL_law_757 k18 b z (z + 371) (J i) (HH h0 z w s w' m)) else if (v2 &&& (63 : Int32)) = (18 : Int32) then (qL_law_780 k18 b z (z + 371) (J i) (HH h0 z w s w' m)) else if (v2 &&& (63 : Int32)) = (19 : Int32) then (qL_law_813 k18 b z (z + 371) (J i) (HH h0 z w s w' m)) else if (v2 &&& (63 : Int32)) = (20 : Int32) then (qL_law_872 k18 b z (z + 371) (J i) (HH h0 z w s w' m)) else if (v2 &&& (63 : Int32)) = (21 : Int32) then (qL_law_905 k18 b z (z + 371) (J i) (HH h0 z w s w' m)) else if (v2 &&& (63 : Int32)) = (22 : Int32) then (qL_law_948 k18 b z (z + 371) (J i) (HH h0 z w s w' m)) else if (v2 &&& (63 : Int32)) = (23 : Int32) then (qL_law_981 k18 b z (z + 371) (J i) (HH h0 z w s w' m)) else if (v2 &&& (63 : Int32)) = (24 : Int32) then (qL_law_1014 k18 b z (z + 371) (J i) (HH h0 z w s w' m)) else if (v2 &&& (63 : Int32)) = (25 : Int32) then (qL_law_1037 k18 b z (z + 371) (J i) (HH h0 z w s w' m)) else if (v2 &&& (63 : Int32)) = (26 : Int32) then (qL_law_1050 k18 b z (z + 371) (J i) (HH h0 z w s w' m)) else if (v2 &&& (63 : Int32)) = (27 : Int32) then (qL_law_1083 k18 b z (z + 371) (J i) (HH h0 z w s w' m)) else if (v2 &&& (63 : Int32)) = (28 : Int32) then (qL_law_1126 k18 b z (z + 371) (J i) (HH h0 z w s w' m)) else if (v2 &&& (63 : Int32)) = (29 : Int32) then (qL_law_1149 k18 b z (z + 371) (J i) (HH h0 z w s w' m)) else if (v2 &&& (63 : Int32)) = (30 : Int32) then (qL_law_1202 k18 b z (z + 371) (J i) (HH h0 z w s w' m)) else if (v2 &&& (63 : Int32)) = (31 : Int32) then (qL_law_1255 k18 b z (z + 371) (J i) (HH h0 z w s w' m)) else if (v2 &&& (63 : Int32)) = (32 : Int32) then (qL_law_1288 k18 b z (z + 371) (J i) (HH h0 z w s w' m)) else if (v2 &&& (63 : Int32)) = (33 : Int32) then (qL_law_1331 k18 b z (z + 371) (J i) (HH h0 z w s w' m)) else if (v2 &&& (63 : Int32)) = (34 : Int32) then (qL_law_1364 k18 b z (z + 371) (J i) (HH h0 z w s w' m)) else if (v2 &&& (63 : Int32)) = (35 : Int32) then (qL_law_1397 k18 b z (z + 371) (J i) (HH h0 z w s w' m)) else if (v2 &&& (63 : Int32)) = (36 : Int32) then (qL_law_1410 k18 b z (z + 371) (J i) (HH h0 z w s w' m)) else if (v2 &&& (63 : Int32)) = (37 : Int32) then (qL_law_1473 k18 b z (z + 371) (J i) (HH h0 z w s w' m)) else if (v2 &&& (63 : Int32)) = (38 : Int32) then (qL_law_1506 k18 b z (z + 371) (J i) (HH h0 z w s w' m)) else if (v2 &&& (63 : Int32)) = (39 : Int32) then (qL_law_1519 k18 b z (z + 371) (J i) (HH h0 z w s w' m)) else if (v2 &&& (63 : Int32)) = (40 : Int32) then (qL_law_1572 k18 b z (z + 371) (J i) (HH h0 z w s w' m)) else if (v2 &&& (63 : Int32)) = (41 : Int32) then (qL_law_1613 k18 b z (z + 371) (J i) (HH h0 z w s w' m)) else if (v2 &&& (63 : Int32)) = (42 : Int32) then (qL_law_1636 k18 b z (z + 371) (J i) (HH h0 z w s w' m)) else if (v2 &&& (63 : Int32)) = (43 : Int32) then (qL_law_1649 k18 b z (z + 371) (J i) (HH h0 z w s w' m)) else if (v2 &&& (63 : Int32)) = (44 : Int32) then (qL_law_1672 k18 b z (z + 371) (J i) (HH h0 z w s w' m)) else if (v2 &&& (63 : Int32)) = (45 : Int32) then (qL_law_1685 k18 b z (z + 371) (J i) (HH h0 z w s w' m)) else if (v2 &&& (63 : Int32)) = (46 : Int32) then (qL_law_1708 k18 b z (z + 371) (J i) (HH h0 z w s w' m)) else qL_law_1721 k18 b z (z + 371) (J i) (HH h0 z w s w' m)) k18 b z i h0 w := by
  refine law_ite (law_236 hb hs hi0 hiL hI) ?_
  refine law_ite (law_299 hb hs hi0 hiL hI) ?_
  refine law_ite (law_322 hb hs hi0 hiL hI) ?_
  refine law_ite (law_335 hb hs hi0 hiL hI) ?_
  refine law_ite (law_348 hb hs hi0 hiL hI) ?_
  refine law_ite (law_401 hb hs hi0 hiL hI) ?_
  refine law_ite (law_454 hb hs hi0 hiL hI) ?_
  refine law_ite (law_487 hb hs hi0 hiL hI) ?_
  refine law_ite (law_510 hb hs hi0 hiL hI) ?_
  refine law_ite (law_543 hb hs hi0 hiL hI) ?_
  refine law_ite (law_576 hb hs hi0 hiL hI) ?_
  refine law_ite (law_619 hb hs hi0 hiL hI) ?_
  refine law_ite (law_652 hb hs hi0 hiL hI) ?_
  refine law_ite (law_685 hb hs hi0 hiL hI) ?_
  refine law_ite (law_698 hb hs hi0 hiL hI) ?_
  refine law_ite (law_721 hb hs hi0 hiL hI) ?_
  refine law_ite (law_744 hb hs hi0 hiL hI) ?_
  refine law_ite (law_757 hb hs hi0 hiL hI) ?_
  refine law_ite (law_780 hb hs hi0 hiL hI) ?_
  refine law_ite (law_813 hb hs hi0 hiL hI) ?_
  refine law_ite (law_872 hb hs hi0 hiL hI) ?_
  refine law_ite (law_905 hb hs hi0 hiL hI) ?_
  refine law_ite (law_948 hb hs hi0 hiL hI) ?_
  refine law_ite (law_981 hb hs hi0 hiL hI) ?_
  refine law_ite (law_1014 hb hs hi0 hiL hI) ?_
  refine law_ite (law_1037 hb hs hi0 hiL hI) ?_
  refine law_ite (law_1050 hb hs hi0 hiL hI) ?_
  refine law_ite (law_1083 hb hs hi0 hiL hI) ?_
  refine law_ite (law_1126 hb hs hi0 hiL hI) ?_
  refine law_ite (law_1149 hb hs hi0 hiL hI) ?_
  refine law_ite (law_1202 hb hs hi0 hiL hI) ?_
  refine law_ite (law_1255 hb hs hi0 hiL hI) ?_
  refine law_ite (law_1288 hb hs hi0 hiL hI) ?_
  refine law_ite (law_1331 hb hs hi0 hiL hI) ?_
  refine law_ite (law_1364 hb hs hi0 hiL hI) ?_
  refine law_ite (law_1397 hb hs hi0 hiL hI) ?_
  refine law_ite (law_1410 hb hs hi0 hiL hI) ?_
  refine law_ite (law_1473 hb hs hi0 hiL hI) ?_
  refine law_ite (law_1506 hb hs hi0 hiL hI) ?_
  refine law_ite (law_1519 hb hs hi0 hiL hI) ?_
  refine law_ite (law_1572 hb hs hi0 hiL hI) ?_
  refine law_ite (law_1613 hb hs hi0 hiL hI) ?_
  refine law_ite (law_1636 hb hs hi0 hiL hI) ?_
  refine law_ite (law_1649 hb hs hi0 hiL hI) ?_
  refine law_ite (law_1672 hb hs hi0 hiL hI) ?_
  refine law_ite (law_1685 hb hs hi0 hiL hI) ?_
  refine law_ite (law_1708 hb hs hi0 hiL hI) ?_
  exact law_1721 hI
theorem law_all (hb : GT h0 z) (hs : Scr h0 z b L xs) (hI : Inv s m) : ∃ h3, qL_law_18 LF b z (z + 371) (J 0) (HH h0 z w s w' m) = rI 1 h3 := by
  have hL := hs.1
  refine loopI (S := Int × CT × Int64 × CT) (fun N p => qL_law_18 N b z (z + 371) (J p.1) (HH h0 z w p.2.1 p.2.2.1 p.2.2.2)) (fun X => ∃ h3, X = rI 1 h3) (fun p => (0 ≤ p.1 ∧ p.1 ≤ L + 6) ∧ Inv p.2.1 p.2.2.2) (fun p => 4000 - p.1) (by intro p hp; omega) (fun N p hp ih => ?_) (0, s, w', m) ⟨⟨Int.le_refl 0, by show (0 : Int) ≤ L + 6; omega⟩, hI⟩ (by show (4000 : Int) - 0 < 20000; omega)
  obtain ⟨i, s1, w1, m1⟩ := p
  change (0 ≤ i ∧ i ≤ L + 6) ∧ Inv s1 m1 at hp
  obtain ⟨hi0, hI1⟩ := hp
  show ∃ h3, qL_law_18_b (qL_law_18 N) b z (z + 371) (J i) (HH h0 z w s1 w1 m1) = rI 1 h3
  unfold qL_law_18_b
  have e6 : J L - (6 : Int32) = J (L - 6) := J_sub L 6
  rw [ln_b hs, e6]
  by_cases hc : L - 6 < i
  · rw [if_pos ((J_lt (by omega)).mpr hc)]
    exact ⟨_, rfl⟩
  · rw [if_neg (fun q => hc ((J_lt (by omega)).mp q)), rd_b hb hs (by omega)]
    obtain ⟨s2, w2, m2, hI2, e⟩ := law_body (w := w) (w' := w1) (k18 := qL_law_18 N) hb hs hi0.1 (by omega) hI1 (xs i.toNat)
    rw [e]
    exact ih (i + 6, s2, w2, m2) ⟨by show 0 ≤ i + 6 ∧ i + 6 ≤ L + 6; omega, hI2⟩ (by show 4000 - (i + 6) < 4000 - i; omega)
end LAW3
