/-! a label makes way -/
section DG
variable {z y : Nat} {g g' : XH} {w w' : Int64} {s s' s0 s1 s2 m m' m0 m1 m2 : CT} {G W W' V W1 row row' r0 nm lo lg sn f : Int → Int} {wd hg mt c i j l n p v t k x xx yy N q o to : Int} {a b : Nat} {h : XH}
/-- the model remembers the world that lies aside -/
theorem M_srs (hn : 0 ≤ m2 0 6 ∧ m2 0 6 ≤ 8) (hHi : HistI s m2) (hW : sameW W (m2 4)) (hn2 : 0 ≤ m2 0 6 ∧ m2 0 6 ≤ 8) (p1 : ∀ o, o ≠ 66 → (o < 68 + 29 * (s 66 1).toNat ∨ 68 + 29 * (s 66 1).toNat + 28 < o) → s1 o = s o) (p2 : s1 66 0 = min (s 66 0 + 1) 8) (p3 : s1 66 1 = (s 66 1 + 1) % 8) (p4 : PlanI s1 (m2 0 3) (m2 0 4) (m2 0 5) (m2 0 6) (m2 2) W (68 + 29 * (s 66 1).toNat)) : ∃ m3 m4 m5, qM_swaps y (hi y TM g w m2) = rV (hi y TM g w m3) ∧ qM_remembers y (hi y TM g w m3) = rV (hi y TM g w m4) ∧ qM_swaps y (hi y TM g w m4) = rV (hi y TM g w m5) ∧ HistI s1 m5 ∧ (∀ o, o ≠ 0 → o ≠ 3 → o ≠ 4 → o ≠ 5 → m5 o = m2 o) ∧ (∀ j, j ≠ 13 → m5 0 j = m2 0 j) ∧ sameW (m2 3) (m5 3) := by
  have s3 := M_swaps (y := y) (g := g) (w := w) (m := m2)
  generalize hm3 : rs (rs m2 3 (cpZ (m2 4) (m2 3) 1784)) 4 (cpZ (m2 3) (m2 4) 1784) = m3 at s3
  have g3 : m3 3 = cpZ (m2 4) (m2 3) 1784 := by rw [← hm3, rs_ne (by decide), rs_same]
  have g4 : m3 4 = cpZ (m2 3) (m2 4) 1784 := by rw [← hm3, rs_same]
  have gf : ∀ o, o ≠ 3 → o ≠ 4 → m3 o = m2 o := fun o o1 o2 => by rw [← hm3, rs_ne o2, rs_ne o1]
  have m3W : sameW W (m3 3) := fun j j1 j2 => by
    rw [g3, cpZ_in ⟨j1, j2⟩]
    exact hW j j1 j2
  have hHi3 : HistI s m3 := HistI_fr hHi (fun o _ => rfl) (gf 5 (by decide) (by decide)) (gf 2 (by decide) (by decide)) (by rw [gf 0 (by decide) (by decide)]) (by rw [gf 0 (by decide) (by decide)]) (by rw [gf 0 (by decide) (by decide)]) (by rw [gf 0 (by decide) (by decide)]) (by rw [gf 0 (by decide) (by decide)]) hn.2
  obtain ⟨m4, b2, b3, b4, b5, b6, b7⟩ := M_remembers (y := y) (g := g) (w := w) (m := m3) (by rw [gf 0 (by decide) (by decide)]; exact hHi.2.1)
  have hH4 : HistI s1 m4 := hist_push (by rw [gf 0 (by decide) (by decide)]; exact hn) hHi3 p1 p2 p3 (by
    rw [gf 0 (by decide) (by decide), gf 2 (by decide) (by decide)]
    exact PlanI_c m3W hn.2 p4) b3 b4 b5 b6 b7
  have b8 := M_swaps (y := y) (g := g) (w := w) (m := m4)
  refine ⟨m3, m4, _, s3, b2, b8, ?_, fun o o1 o2 o3 o4 => ?_, fun j hj => ?_, ?_⟩
  · refine HistI_fr hH4 (fun o _ => rfl) ?_ ?_ ?_ ?_ ?_ ?_ ?_ (by rw [b4 6 (by decide), gf 0 (by decide) (by decide)]; exact hn.2) <;> rw [rs_ne (by decide), rs_ne (by decide)]
  · rw [rs_ne o3, rs_ne o2, b3 o o1 o4, gf o o2 o3]
  · rw [rs_ne (by decide), rs_ne (by decide), b4 j hj, gf 0 (by decide) (by decide)]
  · simp (disch := omega) only [rs_same, rs_ne, rs_rs, ru_same, ru_ne, ne_eq]
    intro j j1 j2
    rw [cpZ_in ⟨j1, j2⟩, b3 4 (by decide) (by decide), g4, cpZ_in ⟨j1, j2⟩]
/-- one other label alone under a position -/
def sole (row : Int → Int) (f k o : Int) : Prop := (∃ i, f ≤ i ∧ i < f + k ∧ row i = o) ∧ ∀ i, f ≤ i → i < f + k → 0 ≤ row i → row i = o
theorem sole_uniq {o' : Int} (h : sole row x k o) (h' : sole row x k o') (h0 : 0 ≤ o) : o = o' := by
  obtain ⟨⟨i, i1, i2, i3⟩, _⟩ := h
  have := h'.2 i i1 i2 (by omega)
  omega
/-- the board when a label has made way: the row, but for the one label's cells -/
theorem dodge_row (hO : Own lg W row 1600) (ho : 0 ≤ o ∧ o < 1600) (hl : 0 ≤ lbl W o) (hc : 0 ≤ c ∧ c < 1600) (hlc : lbl W c < 0) (hf : sole row (fr c p (lg c)) (lg c) o) (hp : 0 ≤ p) : Own lg (ru (ru W (184 + o) (-2)) (184 + c) p) (pnt (pnt row (fr o (lbl W o) (lg o)) (lg o) (-2)) (fr c p (lg c)) (lg c) c) 1600 := by
  have hne : c ≠ o := fun e => by rw [e] at hlc; omega
  have h1 := Own_take ho hO hl
  refine Own_put hc h1 ?_ hp ?_
  · rw [lbl_ru ho.1 hc.1, if_neg hne]; exact hlc
  · rintro ⟨i, i1, i2, i3, i4⟩
    unfold pnt at i3 i4
    by_cases e : fr o (lbl W o) (lg o) ≤ i ∧ i < fr o (lbl W o) (lg o) + lg o
    · rw [if_pos e] at i3; omega
    · rw [if_neg e] at i3 i4
      have e2 := hf.2 i i1 i2 i3
      by_cases hi : 0 ≤ i ∧ i < 1600
      · rcases (hO i hi.1 hi.2).1 with x | ⟨x1, x2, x3, x4⟩
        · omega
        · rw [e2] at x4
          exact e x4
      · sorry
end DG
