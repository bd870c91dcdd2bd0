/-! a label makes way -/
section DG
variable {z y : Nat} {g g' : XH} {w w' : Int64} {s s' s0 s1 s2 m m' m0 m1 m2 : CT} {G W W' V W1 row row' r0 nm lo lg sn f : Int → Int} {wd hg mt c i j l n p v t k x xx yy N q o to : Int} {a b : Nat} {h : XH}
/-- the model remembers the world that lies aside -/
theorem M_srs (hn : 0 ≤ m2 0 6 ∧ m2 0 6 ≤ 8) (hHi : HistI s m2) (hW : sameW W (m2 4)) (hn2 : 0 ≤ m2 0 6 ∧ m2 0 6 ≤ 8) (p1 : ∀ o, o ≠ 66 → (o < 68 + 29 * (s 66 1).toNat ∨ 68 + 29 * (s 66 1).toNat + 28 < o) → s1 o = s o) (p2 : s1 66 0 = min (s 66 0 + 1) 8) (p3 : s1 66 1 = (s 66 1 + 1) % 8) (p4 : PlanI s1 (m2 0 3) (m2 0 4) (m2 0 5) (m2 0 6) (m2 2) W (68 + 29 * (s 66 1).toNat)) : ∃ m3 m4 m5, qM_swaps y (hi y TM g w m2) = rV (hi y TM g w m3) ∧ qM_remembers y (hi y TM g w m3) = rV (hi y TM g w m4) ∧ qM_swaps y (hi y TM g w m4) = rV (hi y TM g w m5) ∧ HistI s1 m5 ∧ (∀ o, o ≠ 0 → o ≠ 3 → o ≠ 4 → o ≠ 5 → m5 o = m2 o) ∧ (∀ j, j ≠ 13 → m5 0 j = m2 0 j) ∧ sameW (m2 3) (m5 3) := by
  have s3 := M_swaps (y := y) (g := g) (w := w) (m := m2)
  generalize hm3 : rs (rs m2 3 (cpZ (m2 4) (m2 3) 1784)) 4 (cpZ (m2 3) (m2 4) 1784) = m3 at s3
  have g3 : m3 3 = cpZ (m2 4) (m2 3) 1784 := by rw [← hm3, rs_ne (by decide), rs_same]
  have g4 : m3 4 = cpZ (m2 3) (m2 4) 1784 := by rw [← hm3, rs_same]
  have gf : ∀ o, o ≠ 3 → o ≠ 4 → m3 o = m2 o := fun o o1 o2 => by rw [← hm3, rs_ne o2, rs_ne o1]
  have m3W : sameW W (m3 3) := fun j j1 j2 => by
    rw [g3, cpZ_in ⟨j1, j2⟩]
    exact hW j j1 j2
  have hHi3 : HistI s m3 := HistI_fr hHi (fun o _ => rfl) (gf 5 (by decide) (by decide)) (gf 2 (by decide) (by decide)) (by rw [gf 0 (by decide) (by decide)]) (by rw [gf 0 (by decide) (by decide)]) (by rw [gf 0 (by decide) (by decide)]) (by rw [gf 0 (by decide) (by decide)]) (by rw [gf 0 (by decide) (by decide)]) hn.2
  obtain ⟨m4, b2, b3, b4, b5, b6, b7⟩ := M_remembers (y := y) (g := g) (w := w) (m := m3) (by rw [gf 0 (by decide) (by decide)]; exact hHi.2.1)
  have hH4 : HistI s1 m4 := hist_push (by rw [gf 0 (by decide) (by decide)]; exact hn) hHi3 p1 p2 p3 (by
    rw [gf 0 (by decide) (by decide), gf 2 (by decide) (by decide)]
    exact PlanI_c m3W hn.2 p4) b3 b4 b5 b6 b7
  have b8 := M_swaps (y := y) (g := g) (w := w) (m := m4)
  refine ⟨m3, m4, _, s3, b2, b8, ?_, fun o o1 o2 o3 o4 => ?_, fun j hj => ?_, ?_⟩
  · refine HistI_fr hH4 (fun o _ => rfl) ?_ ?_ ?_ ?_ ?_ ?_ ?_ (by rw [b4 6 (by decide), gf 0 (by decide) (by decide)]; exact hn.2) <;> rw [rs_ne (by decide), rs_ne (by decide)]
  · rw [rs_ne o3, rs_ne o2, b3 o o1 o4, gf o o2 o3]
  · rw [rs_ne (by decide), rs_ne (by decide), b4 j hj, gf 0 (by decide) (by decide)]
  · simp (disch := omega) only [rs_same, rs_ne, rs_rs, ru_same, ru_ne, ne_eq]
    intro j j1 j2
    rw [cpZ_in ⟨j1, j2⟩, b3 4 (by decide) (by decide), g4, cpZ_in ⟨j1, j2⟩]
/-- one other label alone under a position -/
def sole (row : Int → Int) (f k o : Int) : Prop := (∃ i, f ≤ i ∧ i < f + k ∧ row i = o) ∧ ∀ i, f ≤ i → i < f + k → 0 ≤ row i → row i = o
theorem sole_uniq {o' : Int} (h : sole row x k o) (h' : sole row x k o') (h0 : 0 ≤ o) : o = o' := by
  obtain ⟨⟨i, i1, i2, i3⟩, _⟩ := h
  have := h'.2 i i1 i2 (by omega)
  omega
/-- the row when a label has been taken and another put -/
def row2 (lg W row : Int → Int) (c o p : Int) : Int → Int := pnt (pnt row (fr o (lbl W o) (lg o)) (lg o) (-2)) (fr c p (lg c)) (lg c) c
theorem sole_free (hw : 4 ≤ wd ∧ wd ≤ 40) (hh : 4 ≤ hg ∧ hg ≤ 40) (hO : Own lg W row 1600) (hc : 0 ≤ c ∧ c < 1600) (ho : ¬offP wd hg c p (lg c)) (hf : sole row (fr c p (lg c)) (lg c) o) : ¬onLb (pnt row (fr o (lbl W o) (lg o)) (lg o) (-2)) (fr c p (lg c)) (lg c) c := by
  rintro ⟨i, i1, i2, i3, i4⟩
  have hi := fr_in hc hw hh ho i1 i2
  unfold pnt at i3 i4
  by_cases e : fr o (lbl W o) (lg o) ≤ i ∧ i < fr o (lbl W o) (lg o) + lg o
  · rw [if_pos e] at i3; omega
  · rw [if_neg e] at i3 i4
    have e2 := hf.2 i i1 i2 i3
    rcases (hO i hi.1 hi.2).1 with x | ⟨x1, x2, x3, x4⟩
    · omega
    · rw [e2] at x4
      exact e x4
/-- how a place is dodged: to which position the other goes -/
noncomputable def soO (row : Int → Int) (f k : Int) : Int := @dite Int (∃ o, 0 ≤ o ∧ sole row f k o) (Classical.propDecidable _) (fun h => Classical.choose h) (fun _ => -2)
theorem soO_of (h : sole row x k o) (h0 : 0 ≤ o) : soO row x k = o := by
  have hex : ∃ o, 0 ≤ o ∧ sole row x k o := ⟨o, h0, h⟩
  unfold soO
  rw [dif_pos hex]
  have := Classical.choose_spec hex
  exact sole_uniq this.2 h this.1
theorem soO_none (h : ∀ o, 0 ≤ o → ¬sole row x k o) : soO row x k = -2 := by
  unfold soO
  rw [dif_neg (fun ⟨o, h0, h1⟩ => h o h0 h1)]
noncomputable def dgT (lo lg W row : Int → Int) (wd hg c p : Int) : Int := if whyP lo lg row wd hg c p = -7 ∧ 0 ≤ soO row (fr c p (lg c)) (lg c) then ff (whyP lo lg (row2 lg W row c (soO row (fr c p (lg c)) (lg c)) p) wd hg (soO row (fr c p (lg c)) (lg c))) else -2
noncomputable def dgP (lo lg W row : Int → Int) (wd hg c : Int) : Int → Int := fun p => if 0 ≤ dgT lo lg W row wd hg c p then 0 else 1
theorem dgT_bd : -2 ≤ dgT lo lg W row wd hg c p ∧ dgT lo lg W row wd hg c p < 8 := by
  unfold dgT
  split
  · exact ff_bd
  · omega
theorem own_no (hO : Own lg W row 1600) (hc : 0 ≤ c) (hl : lbl W c < 0) : ∀ i, 0 ≤ i → i < 1600 → row i ≠ c := by
  intro i h1 h2 e
  rcases (hO i h1 h2).1 with x | ⟨x1, x2, x3, x4⟩
  · omega
  · rw [e] at x3; omega
theorem own_lab (hO : Own lg W row 1600) (h1 : 0 ≤ i) (h2 : i < 1600) (h : 0 ≤ row i) : row i < 1600 ∧ 0 ≤ lbl W (row i) ∧ inL (row i) (lbl W (row i)) (lg (row i)) i := by
  rcases (hO i h1 h2).1 with x | ⟨x1, x2, x3, x4⟩
  · omega
  · exact ⟨x2, x3, x4⟩
theorem MkR_c {q : Int → Int} (h : MkR q row) (he : ∀ i, 0 ≤ i → i < 1600 → row i = row' i) : MkR q row' := fun i h1 h2 => by
  rw [← he i h1 h2]
  exact h i h1 h2
/-! the class's -/
theorem C_dg1 (hz : Bsz G wd hg n) (hI : LabI G wd hg n W row s) (hc : 0 ≤ c ∧ c < 1600) (hp : 0 ≤ p ∧ p < 8) (hl : lbl W c < 0) (hpl : 0 < SN G n c) : ∃ r, qB_onlyLabelUnder (z + 300) (J c) (J p) (hi z TD g w s) = rI (J r) (hi z TD g w s) ∧ (-2 ≤ r ∧ r < 1600) ∧ ((0 ≤ r ∧ whyP (LO G n) (LN G n) row wd hg c p = -7 ∧ sole row (fr c p (LN G n c)) (LN G n c) r ∧ soO row (fr c p (LN G n c)) (LN G n c) = r) ∨ (r = -2 ∧ dgT (LO G n) (LN G n) W row wd hg c p = -2)) := by
  have hLc := LN_pos (c := c) hz.lb hz.2.2.1.1 hpl
  have f305 := hI.f305 hc.1 hc.2
  obtain ⟨r, e1, e2⟩ := C_onlyLabelUnder (z := z) (g := g) (w := w) hc hp (hI.rs hz) (by rw [f305]; exact hLc.1)
  rw [whyC_of hz.1 hz.2.1 hc hI.2.2.2, f305] at e2
  have hM := hI.2.2.2.2.2
  rcases e2 with ⟨a1, a2⟩ | ⟨a1, a2⟩
  · refine ⟨r, e1, by omega, Or.inr ⟨a2, ?_⟩⟩
    unfold dgT
    rw [if_neg (fun e => a1 e.1)]
  · have hfr : ¬offP wd hg c p (LN G n c) := fun ho => by rw [why_off ho] at a1; omega
    have hin : ∀ i, fr c p (LN G n c) ≤ i → i < fr c p (LN G n c) + LN G n c → 0 ≤ i ∧ i < 1600 := fun i i1 i2 => fr_in hc hz.1 hz.2.1 hfr i1 i2
    have hmi : ∀ i, 0 ≤ i → i < 1600 → (0 ≤ s 306 i - 1 ↔ 0 ≤ row i) ∧ (0 ≤ row i → s 306 i - 1 = row i) := fun i i1 i2 => by
      have := hM i i1 i2
      by_cases hr : row i < 0
      · rw [if_pos hr] at this; omega
      · rw [if_neg hr] at this; omega
    rcases a2 with ⟨b1, b2, ⟨i, i1, i2, i3⟩, b4⟩ | ⟨b1, i, j, hi, hj, b2, b3, b4⟩
    · have hs : sole row (fr c p (LN G n c)) (LN G n c) r := by
        refine ⟨⟨i, i1, i2, ?_⟩, fun j j1 j2 j3 => ?_⟩
        · have := hmi i (hin i i1 i2).1 (hin i i1 i2).2
          change s 306 i - 1 = r at i3
          omega
        · have := hmi j (hin j j1 j2).1 (hin j j1 j2).2
          have x := b4 j j1 j2 (by show 0 ≤ s 306 j - 1; omega)
          change s 306 j - 1 = r at x
          omega
      exact ⟨r, e1, by omega, Or.inl ⟨b1, a1, hs, soO_of hs b1⟩⟩
    · refine ⟨r, e1, by omega, Or.inr ⟨b1, ?_⟩⟩
      change 0 ≤ s 306 i - 1 at b2
      change 0 ≤ s 306 j - 1 at b3
      change s 306 i - 1 ≠ s 306 j - 1 at b4
      have hn : soO row (fr c p (LN G n c)) (LN G n c) = -2 := soO_none fun o h0 hs => by
        have x1 := hmi i (hin i hi.1 hi.2).1 (hin i hi.1 hi.2).2
        have x2 := hmi j (hin j hj.1 hj.2).1 (hin j hj.1 hj.2).2
        have y1 := hs.2 i hi.1 hi.2 (by omega)
        have y2 := hs.2 j hj.1 hj.2 (by omega)
        omega
      unfold dgT
      rw [hn, if_neg (by omega)]
theorem C_refuge (hz : Bsz G wd hg n) (hI : LabI G wd hg n W row s) (hc : 0 ≤ c ∧ c < 1600) (hp : 0 ≤ p ∧ p < 8) (hl : lbl W c < 0) (hpl : 0 < SN G n c) (ho : 0 ≤ o ∧ o < 1600) (hw7 : whyP (LO G n) (LN G n) row wd hg c p = -7) (hs : sole row (fr c p (LN G n c)) (LN G n c) o) : (0 ≤ lbl W o ∧ 0 < SN G n o) ∧ ∃ s', qD_refugeBeside z (J c) (J p) (J o) (hi z TD g w s) = rI (J (ff (whyP (LO G n) (LN G n) (row2 (LN G n) W row c o p) wd hg o))) (hi z TD g w s') ∧ (∀ x, x ≠ 306 → s' x = s x) ∧ MkR (s' 306) row := by
  have hM := hI.2.2.2.2.2
  have hfr : ¬offP wd hg c p (LN G n c) := fun h => by rw [why_off h] at hw7; omega
  have hin : ∀ i, fr c p (LN G n c) ≤ i → i < fr c p (LN G n c) + LN G n c → 0 ≤ i ∧ i < 1600 := fun i i1 i2 => fr_in hc hz.1 hz.2.1 hfr i1 i2
  obtain ⟨⟨i0, j1, j2, j3⟩, hsole⟩ := hs
  have hlo : 0 ≤ lbl W o := by
    have := own_lab hI.2.1 (hin i0 j1 j2).1 (hin i0 j1 j2).2 (by omega)
    rw [j3] at this
    exact this.2.1
  have hne : c ≠ o := fun e => by rw [e] at hl; omega
  have hgo := hI.1 o ho.1 ho.2
  have hpo : lbl W o < 8 ∧ 0 < SN G n o ∧ ¬offP wd hg o (lbl W o) (LN G n o) := by
    rcases hgo with e | ⟨_, e1, e2, e3, _⟩
    · omega
    · exact ⟨e1, e2, e3⟩
  have hLc := LN_pos (c := c) hz.lb hz.2.2.1.1 hpl
  have hLo := LN_pos (c := o) hz.lb hz.2.2.1.1 hpo.2.1
  have f305c := hI.f305 hc.1 hc.2
  have f305o := hI.f305 ho.1 ho.2
  have e300 := hI.2.2.2.1
  have hR := hI.rs hz
  have x0 := C_positionOf2 (z := z) (g := g) (w := w) hz hI ho
  have x1 := C_paint (z := z) (g := g) (w := w) (s := s) (c := c) (p := p) (v := c + 1) hc hp hR (by rw [f305c]; exact hLc.1) (by rw [f305c, e300.1, e300.2]; exact hfr)
  rw [f305c] at x1
  generalize hs1 : rs s 306 (pnt (s 306) (fr c p (LN G n c)) (LN G n c) (c + 1)) = s1 at x1
  have g1 : ∀ x, x ≠ 306 → s1 x = s x := fun x hx => by rw [← hs1, rs_ne hx]
  have g1m : s1 306 = pnt (s 306) (fr c p (LN G n c)) (LN G n c) (c + 1) := by rw [← hs1, rs_same]
  have hR1 : RsI s1 := by
    unfold RsI at *
    rw [g1 300 (by decide), g1 301 (by decide), g1 305 (by decide), g1m]
    refine ⟨hR.1, hR.2.1, fun i i1 i2 => ⟨(hR.2.2 i i1 i2).1, (hR.2.2 i i1 i2).2.1, ?_⟩⟩
    have := (hR.2.2 i i1 i2).2.2
    unfold pnt
    split <;> omega
  have x2 := C_firstFit (z := z) (g := g) (w := w) (s := s1) (c := o) ho hR1 (by rw [g1 305 (by decide), f305o]; exact hLo.1)
  have ex : ff (whyC s1 o) = ff (whyP (LO G n) (LN G n) (row2 (LN G n) W row c o p) wd hg o) := ff_congr fun q _ _ => by
    unfold whyC
    rw [g1 300 (by decide), e300.1, e300.2, g1 301 (by decide), g1 305 (by decide)]
    refine why_congr ho hz.1 hz.2.1 (fun i i1 i2 => by rw [(hI.2.2.2.2.1.1 i i1 i2).1]) f305o (fun i i1 i2 => ?_)
    have m1 := hM i i1 i2
    rw [g1m]
    unfold row2 oth
    show (0 ≤ pnt (s 306) (fr c p (LN G n c)) (LN G n c) (c + 1) i - 1 ∧ pnt (s 306) (fr c p (LN G n c)) (LN G n c) (c + 1) i - 1 ≠ o) ↔ _
    by_cases c1 : fr c p (LN G n c) ≤ i ∧ i < fr c p (LN G n c) + LN G n c
    · have e1 : pnt (s 306) (fr c p (LN G n c)) (LN G n c) (c + 1) i = c + 1 := if_pos c1
      have e2 : pnt (pnt row (fr o (lbl W o) (LN G n o)) (LN G n o) (-2)) (fr c p (LN G n c)) (LN G n c) c i = c := if_pos c1
      rw [e1, e2]
      constructor <;> intro _ <;> constructor <;> omega
    · have e1 : pnt (s 306) (fr c p (LN G n c)) (LN G n c) (c + 1) i = s 306 i := if_neg c1
      have e2 : pnt (pnt row (fr o (lbl W o) (LN G n o)) (LN G n o) (-2)) (fr c p (LN G n c)) (LN G n c) c i = pnt row (fr o (lbl W o) (LN G n o)) (LN G n o) (-2) i := if_neg c1
      rw [e1, e2]
      by_cases c2 : fr o (lbl W o) (LN G n o) ≤ i ∧ i < fr o (lbl W o) (LN G n o) + LN G n o
      · have e3 : pnt row (fr o (lbl W o) (LN G n o)) (LN G n o) (-2) i = -2 := if_pos c2
        have e4 := (hI.2.1 i i1 i2).2 o ho.1 ho.2 hlo c2
        rw [e3]
        rw [e4, if_neg (by omega)] at m1
        constructor <;> intro hh <;> omega
      · have e3 : pnt row (fr o (lbl W o) (LN G n o)) (LN G n o) (-2) i = row i := if_neg c2
        rw [e3]
        by_cases hr : row i < 0
        · rw [if_pos hr] at m1; constructor <;> intro hh <;> omega
        · rw [if_neg hr] at m1; constructor <;> intro hh <;> omega
  rw [ex] at x2
  have x3 := C_paint (z := z) (g := g) (w := w) (s := s1) (c := c) (p := p) (v := 0) hc hp hR1 (by rw [g1 305 (by decide), f305c]; exact hLc.1) (by rw [g1 305 (by decide), f305c, g1 300 (by decide), e300.1, e300.2]; exact hfr)
  rw [g1 305 (by decide), f305c] at x3
  generalize hs2 : rs s1 306 (pnt (s1 306) (fr c p (LN G n c)) (LN G n c) 0) = s2 at x3
  have g2 : ∀ x, x ≠ 306 → s2 x = s x := fun x hx => by rw [← hs2, rs_ne hx, g1 x hx]
  have g2m : s2 306 = pnt (s1 306) (fr c p (LN G n c)) (LN G n c) 0 := by rw [← hs2, rs_same]
  have hR2 : RsI s2 := by
    unfold RsI at *
    rw [g2 300 (by decide), g2 301 (by decide), g2 305 (by decide), g2m]
    refine ⟨hR.1, hR.2.1, fun i i1 i2 => ⟨(hR.2.2 i i1 i2).1, (hR.2.2 i i1 i2).2.1, ?_⟩⟩
    have := (hR1.2.2 i i1 i2).2.2
    unfold pnt
    split <;> omega
  have x4 := C_paint (z := z) (g := g) (w := w) (s := s2) (c := o) (p := lbl W o) (v := o + 1) ho ⟨hlo, hpo.1⟩ hR2 (by rw [g2 305 (by decide), f305o]; exact hLo.1) (by rw [g2 305 (by decide), f305o, g2 300 (by decide), e300.1, e300.2]; exact hpo.2.2)
  rw [g2 305 (by decide), f305o] at x4
  refine ⟨⟨hlo, hpo.2.1⟩, rs s2 306 (pnt (s2 306) (fr o (lbl W o) (LN G n o)) (LN G n o) (o + 1)), ?_, fun x hx => by rw [rs_ne hx, g2 x hx], ?_⟩
  · unfold qD_refugeBeside
    simp (disch := omega) only [↓gR_D0, ↓gR_D1, ↓gR_D2, ↓gR_D3, ↓gR_D4, ↓gR_D5, ↓gR_D6, ↓gR_D7, ↓gR_D8, ↓gR_D9, ↓gR_D10, ↓gI_D11, ↓pV_D11, ↓isO_D, ↓gI_T0, ↓pV_T0, ↓gR_T1, ↓isO_T, ↓rd_T2, ↓wr_T2, ↓gI_U0, ↓pV_U0, ↓gR_U1, ↓isO_U, ↓rd_U2, ↓wr_U2, ↓gI_Ps0, ↓pV_Ps0, ↓gI_Ps1, ↓pV_Ps1, ↓gI_Ps2, ↓pV_Ps2, ↓gI_Ps3, ↓pV_Ps3, ↓gI_Ps4, ↓pV_Ps4, ↓isO_Ps, ↓gI_N0, ↓pV_N0, ↓gI_N1, ↓pV_N1, ↓gI_N2, ↓pV_N2, ↓gI_N3, ↓pV_N3, ↓gR_N4, ↓gR_N5, ↓isO_N, ↓rd_NL, ↓gI_NB0, ↓pV_NB0, ↓gR_NB1, ↓gR_NB2, ↓isO_NB, ↓rd_NC, ↓wr_NC, ↓ln_NC, ↓rd_NP, ↓wr_NP, ↓ln_NP, ↓gI_V0, ↓pV_V0, ↓gI_V1, ↓pV_V1, ↓gI_V2, ↓pV_V2, ↓gI_V3, ↓pV_V3, ↓gR_V4, ↓gR_V5, ↓isO_V, ↓rd_VL, ↓gI_VB0, ↓pV_VB0, ↓gR_VB1, ↓gR_VB2, ↓isO_VB, ↓rd_VC, ↓wr_VC, ↓ln_VC, ↓rd_VP, ↓wr_VP, ↓ln_VP, ↓rd_SL, ↓rd_KP, ↓wr_KP, ↓gI_H0, ↓pV_H0, ↓gI_H1, ↓pV_H1, ↓gR_H2, ↓isO_H, ↓rd_HP, ↓gI_B0, ↓pV_B0, ↓gI_B1, ↓pV_B1, ↓gR_B2, ↓gR_B3, ↓gR_B4, ↓gR_B5, ↓gR_B6, ↓gR_B7, ↓gR_B8, ↓isO_B, ↓rd_B301, ↓wr_B301, ↓ln_B301, ↓rd_B302, ↓wr_B302, ↓ln_B302, ↓rd_B303, ↓wr_B303, ↓ln_B303, ↓rd_B304, ↓wr_B304, ↓ln_B304, ↓rd_B305, ↓wr_B305, ↓ln_B305, ↓rd_B306, ↓wr_B306, ↓ln_B306, ↓rd_B307, ↓wr_B307, ↓ln_B307, ↓gR_Tv, ↓isO_Tv, ↓rd_Tv9, ↓wr_Tv9, ↓ln_Tv9, pV_D11, pV_T0, rd_T2, wr_T2, pV_U0, rd_U2, wr_U2, pV_Ps0, pV_Ps1, pV_Ps2, pV_Ps3, pV_Ps4, pV_N0, pV_N1, pV_N2, pV_N3, rd_NL, pV_NB0, rd_NC, wr_NC, rd_NP, wr_NP, pV_V0, pV_V1, pV_V2, pV_V3, rd_VL, pV_VB0, rd_VC, wr_VC, rd_VP, wr_VP, rd_SL, rd_KP, wr_KP, pV_H0, pV_H1, rd_HP, pV_B0, pV_B1, rd_B301, wr_B301, rd_B302, wr_B302, rd_B303, wr_B303, rd_B304, wr_B304, rd_B305, wr_B305, rd_B306, wr_B306, rd_B307, wr_B307, rd_Tv9, wr_Tv9, J_l, J_neg, J_add, J_sub, J_mul, J_lt, J_le, J_eq, J_div2, J_rem2, J_shl1, J_orp, J_or, J_and, J_shr, J_ushr, J_max, J_min, J_abs, J_b0, ↓b0_ite, ↓b0_ite2, b0_ite, bI_r, bV_r, b01_ite, ite_true, ite_false, rZ_b, K_l, J_long, M_in, x0, x1, x2, x3, x4]
  · rw [rs_same]
    intro i i1 i2
    have m1 := hM i i1 i2
    rw [g2m, g1m]
    unfold pnt
    by_cases c2 : fr o (lbl W o) (LN G n o) ≤ i ∧ i < fr o (lbl W o) (LN G n o) + LN G n o
    · have e4 := (hI.2.1 i i1 i2).2 o ho.1 ho.2 hlo c2
      rw [if_pos c2, e4, if_neg (by omega)]
    · rw [if_neg c2]
      by_cases c1 : fr c p (LN G n c) ≤ i ∧ i < fr c p (LN G n c) + LN G n c
      · rw [if_pos c1]
        have : row i < 0 := by
          by_cases hr : 0 ≤ row i
          · have e2 := hsole i c1.1 c1.2 hr
            have := own_lab hI.2.1 i1 i2 hr
            rw [e2] at this
            exact absurd this.2.2 c2
          · omega
        rw [if_pos this]
      · rw [if_neg c1, if_neg c1]
        exact m1
end DG
