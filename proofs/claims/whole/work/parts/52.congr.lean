/-! what lies on the board depends on the lines alone -/
section GC
variable {W W' : Int → Int} {l r k j c t n i p : Int}
def sameL (W W' : Int → Int) : Prop := ∀ j, 0 ≤ j → j < 184 → W j = W' j
theorem sameL_symm (h : sameL W W') : sameL W' W := fun j h1 h2 => (h j h1 h2).symm
theorem cX_c (h : sameL W W') (hl : 0 ≤ l ∧ l < 8) (hp : 0 ≤ p ∧ p < 10) : cX W l p = cX W' l p := h _ (by omega) (by omega)
theorem cY_c (h : sameL W W') (hl : 0 ≤ l ∧ l < 8) (hp : 0 ≤ p ∧ p < 10) : cY W l p = cY W' l p := h _ (by omega) (by omega)
theorem cZ_c (h : sameL W W') (hl : 0 ≤ l ∧ l < 8) : cZ W l = cZ W' l := h _ (by omega) (by omega)
theorem cT_c (h : sameL W W') (hl : 0 ≤ l ∧ l < 8) : cT W l = cT W' l := h _ (by omega) (by omega)
theorem cN_c (h : sameL W W') (hl : 0 ≤ l ∧ l < 8) : cN W l = cN W' l := h _ (by omega) (by omega)
theorem LB_c (h : sameL W W') (hl : 0 ≤ l ∧ l < 8) (hb : LB W l) : LB W' l := by
  unfold LB at *
  rw [← cN_c h hl, ← cT_c h hl, ← cZ_c h hl]
  refine ⟨hb.1, hb.2.1, hb.2.2.1, fun p h1 h2 => ?_⟩
  rw [← cX_c h hl (by omega), ← cY_c h hl (by omega)]
  exact hb.2.2.2 p h1 h2
theorem wy_c (h : sameL W W') (hl : 0 ≤ l ∧ l < 8) (hr : 0 ≤ r ∧ r < 9) : wy W l r = wy W' l r := by
  unfold wy
  rw [cX_c h hl (by omega), cX_c h hl (by omega), cY_c h hl (by omega), cY_c h hl (by omega)]
theorem sp_c (h : sameL W W') (hl : 0 ≤ l ∧ l < 8) (hr : 0 ≤ r ∧ r < 9) : sp W l r = sp W' l r := by
  unfold sp
  rw [cX_c h hl (by omega), cX_c h hl (by omega), cY_c h hl (by omega), cY_c h hl (by omega)]
theorem pr_c (h : sameL W W') (hl : 0 ≤ l ∧ l < 8) (hr : r ≤ 9) : pr W l r = pr W' l r := sm_congr fun i h1 h2 => sp_c h hl (by omega)
theorem len_c (h : sameL W W') (hl : 0 ≤ l ∧ l < 8) (hb : LB W l) : len W l = len W' l := by
  have := hb.1
  unfold len
  rw [pr_c h hl (by omega), cN_c h hl]
theorem LG_c (h : sameL W W') (hl : 0 ≤ l ∧ l < 8) (hb : LG W l) : LG W' l := by
  have := hb.1.1
  refine ⟨LB_c h hl hb.1, fun r h1 h2 => ?_, ?_⟩
  · rw [← cN_c h hl] at h2
    rw [← wy_c h hl (by omega)]
    exact hb.2.1 r h1 h2
  · rw [← cT_c h hl, ← len_c h hl hb.1]
    exact hb.2.2
theorem rr_c (h : sameL W W') (hl : 0 ≤ l ∧ l < 8) (hb : LB W l) : rr W l k = rr W' l k := by
  have := hb.1
  unfold rr
  rw [← cN_c h hl]
  exact cnt_congr fun i h1 h2 => by rw [pr_c h hl (by omega)]
theorem Dw_c (h : sameL W W') (hl : 0 ≤ l ∧ l < 8) (hb : LB W l) : Dw W l k = Dw W' l k := by
  have := hb.1
  have := rr_bd (k := k) hb
  unfold Dw
  rw [← rr_c h hl hb, wy_c h hl (by omega)]
theorem Ps_c (h : sameL W W') (hl : 0 ≤ l ∧ l < 8) (hb : LB W l) : Ps W l k = Ps W' l k := by
  have := hb.1
  have := rr_bd (k := k) hb
  unfold Ps Px Py
  rw [← rr_c h hl hb, ← Dw_c h hl hb, cX_c h hl (by omega), cY_c h hl (by omega), pr_c h hl (by omega)]
theorem st_c (h : sameL W W') (hl : 0 ≤ l ∧ l < 8) (hb : LB W l) : st W l t = st W' l t := by
  unfold st
  rw [len_c h hl hb, cT_c h hl]
theorem sc_c (h : sameL W W') (hl : 0 ≤ l ∧ l < 8) (hb : LB W l) : sc W l t = sc W' l t := by
  unfold sc
  rw [st_c h hl hb, Ps_c h hl hb]
theorem edge_c (h : sameL W W') (hl : 0 ≤ l ∧ l < 8) (hb : LB W l) : edge W l k = edge W' l k := by
  unfold edge
  rw [Dw_c h hl hb, Ps_c h hl hb, Ps_c h hl hb]
theorem onK_c (h : sameL W W') (hl : 0 ≤ l ∧ l < 8) (hb : LB W l) : onK W l (len W l) c ↔ onK W' l (len W' l) c := by
  unfold onK
  rw [len_c h hl hb]
  constructor
  · rintro ⟨i, h1, h2, h3⟩
    exact ⟨i, h1, h2, by rw [← Ps_c h hl hb]; exact h3⟩
  · rintro ⟨i, h1, h2, h3⟩
    exact ⟨i, h1, h2, by rw [Ps_c h hl hb]; exact h3⟩
theorem onE_c (h : sameL W W') (hl : 0 ≤ l ∧ l < 8) (hb : LB W l) : onE W l (len W l) c ↔ onE W' l (len W' l) c := by
  unfold onE
  rw [len_c h hl hb]
  constructor
  · rintro ⟨i, h1, h2, h3⟩
    exact ⟨i, h1, h2, by rw [← edge_c h hl hb]; exact h3⟩
  · rintro ⟨i, h1, h2, h3⟩
    exact ⟨i, h1, h2, by rw [edge_c h hl hb]; exact h3⟩
theorem hs_c (h : sameL W W') (hl : 0 ≤ l ∧ l < 8) (hb : LB W l) : hs W l (cT W l) c ↔ hs W' l (cT W' l) c := by
  unfold hs
  rw [cT_c h hl]
  constructor
  · rintro ⟨i, h1, h2, h3⟩
    exact ⟨i, h1, h2, by rw [← sc_c h hl hb]; exact h3⟩
  · rintro ⟨i, h1, h2, h3⟩
    exact ⟨i, h1, h2, by rw [sc_c h hl hb]; exact h3⟩
theorem cs_c (h : sameL W W') (hl : 0 ≤ l ∧ l < 8) (hb : LB W l) : cs W l (cT W l) c = cs W' l (cT W' l) c := by
  unfold cs
  rw [cT_c h hl]
  exact cnt_congr fun i h1 h2 => by rw [sc_c h hl hb]
theorem mx_c {f g : Int → Int} (h : ∀ i, 0 ≤ i → i < n → f i = g i) : mx f n = mx g n := by
  by_cases hn : 0 ≤ n
  · exact int_ind_le (P := fun n => mx f n = mx g n) (N := n) rfl (fun k h1 h2 ih => by rw [mx_s h1, mx_s h1, ih, h k h1 h2]) n hn (Int.le_refl n)
  · unfold mx
    rw [show n.toNat = 0 by omega]
    rfl
theorem ml_c (h : sameL W W') (hl : 0 ≤ l ∧ l < 8) (hb : LB W l) : ml W l (cT W l) c = ml W' l (cT W' l) c := by
  unfold ml
  rw [cT_c h hl]
  refine mx_c fun i h1 h2 => ?_
  unfold lf
  rw [sc_c h hl hb, cZ_c h hl]
theorem LO_c (h : sameL W W') (hn : n ≤ 8) (hb : ∀ l, 0 ≤ l → l < n → LB W l) : LO W n c = LO W' n c := mk_congr fun i h1 h2 => by
  constructor
  · rintro ⟨h3, h4⟩
    exact ⟨h3, (onK_c h (by omega) (hb i h1 h3)).mp h4⟩
  · rintro ⟨h3, h4⟩
    exact ⟨h3, (onK_c h (by omega) (hb i h1 h3)).mpr h4⟩
theorem LVs_c (h : sameL W W') (hn : n ≤ 8) (hb : ∀ l, 0 ≤ l → l < n → LB W l) : LVs W n c = LVs W' n c := mk_congr fun i h1 h2 => by
  constructor
  · rintro ⟨h3, h4⟩
    exact ⟨h3, (onE_c h (by omega) (hb i h1 h3)).mp h4⟩
  · rintro ⟨h3, h4⟩
    exact ⟨h3, (onE_c h (by omega) (hb i h1 h3)).mpr h4⟩
theorem SM_c (h : sameL W W') (hn : n ≤ 8) (hb : ∀ l, 0 ≤ l → l < n → LB W l) : SM W n c = SM W' n c := mk_congr fun i h1 h2 => by
  constructor
  · rintro ⟨h3, h4⟩
    exact ⟨h3, (hs_c h (by omega) (hb i h1 h3)).mp h4⟩
  · rintro ⟨h3, h4⟩
    exact ⟨h3, (hs_c h (by omega) (hb i h1 h3)).mpr h4⟩
theorem SP_c (h : sameL W W') (hn : n ≤ 8) (hb : ∀ l, 0 ≤ l → l < n → LB W l) : SP W n c = SP W' n c := mk_congr fun i h1 h2 => by
  constructor
  · rintro ⟨h3, h4⟩
    exact ⟨h3, (onE_c h (by omega) (hb _ (by omega) h3)).mp h4⟩
  · rintro ⟨h3, h4⟩
    exact ⟨h3, (onE_c h (by omega) (hb _ (by omega) h3)).mpr h4⟩
theorem SN_c (h : sameL W W') (hn : n ≤ 8) (hb : ∀ l, 0 ≤ l → l < n → LB W l) : SN W n c = SN W' n c := sm_congr fun i h1 h2 => cs_c h (by omega) (hb i h1 h2)
theorem LN_c (h : sameL W W') (hn : n ≤ 8) (hb : ∀ l, 0 ≤ l → l < n → LB W l) : LN W n c = LN W' n c := mx_c fun i h1 h2 => ml_c h (by omega) (hb i h1 h2)
/-- places -/
theorem SN_pos (hb : ∀ l, 0 ≤ l → l < n → LB W l) (hn : 0 ≤ n) : 0 < SN W n c ↔ ∃ l t, (0 ≤ l ∧ l < n) ∧ (0 ≤ t ∧ t < cT W l) ∧ sc W l t = c := by
  have hz : ∀ l, 0 ≤ l → l < n → 0 ≤ cs W l (cT W l) c := fun l h1 h2 => (cs_bd (by have := (hb l h1 h2).2.1; omega)).1
  have key := int_ind_le (P := fun n => 0 < SN W n c ↔ ∃ l t, (0 ≤ l ∧ l < n) ∧ (0 ≤ t ∧ t < cT W l) ∧ sc W l t = c) (N := n) (by
    constructor
    · intro h; exact absurd h (by show ¬(0 < sm _ 0); rw [sm_0]; omega)
    · rintro ⟨l, t, h1, _⟩; omega) (fun k h1 h2 ih => by
    have h0 : 0 ≤ SN W k c := by
      have := sm_bd (f := fun l => cs W l (cT W l) c) (a := 0) (b := 20) h1 (fun i i1 i2 => ⟨hz i i1 (by omega), by
        have b1 := (hb i i1 (by omega)).2.1
        have := (cs_bd (W := W) (l := i) (c := c) (t := cT W i) (by omega)).2
        omega⟩)
      unfold SN
      omega
    have hk := hz k h1 h2
    rw [SN_s h1]
    constructor
    · intro h
      by_cases h3 : 0 < SN W k c
      · obtain ⟨l, t, x1, x2⟩ := ih.mp h3
        exact ⟨l, t, by omega, x2⟩
      · have h4 : 0 < cs W k (cT W k) c := by omega
        obtain ⟨t, t1, t2, t3⟩ := cnt_pos.mp h4
        exact ⟨k, t, by omega, ⟨t1, t2⟩, t3⟩
    · rintro ⟨l, t, x1, x2, x3⟩
      by_cases h3 : l < k
      · have := ih.mpr ⟨l, t, by omega, x2, x3⟩
        omega
      · have e : l = k := by omega
        subst e
        have : 0 < cs W l (cT W l) c := cnt_pos.mpr ⟨t, x2.1, x2.2, x3⟩
        omega) n hn (Int.le_refl n)
  exact key
theorem LN_pos (hb : ∀ l, 0 ≤ l → l < n → LB W l) (hn : 0 ≤ n) (h : 0 < SN W n c) : 1 ≤ LN W n c ∧ LN W n c ≤ 12 := by
  obtain ⟨l, t, h1, h2, h3⟩ := (SN_pos hb hn).mp h
  have b1 := (hb l h1.1 h1.2).2.2.1
  have h4 : cZ W l + t % 3 ≤ ml W l (cT W l) c := by
    have := mx_ge (f := lf W l c) (i := t) (n := cT W l) h2.1 h2.2
    have e : lf W l c t = cZ W l + t % 3 := if_pos h3
    rw [e] at this
    exact this
  have h5 : ml W l (cT W l) c ≤ LN W n c := mx_ge (f := fun l => ml W l (cT W l) c) h1.1 h1.2
  have := (LN_bd (c := c) hn hb).2
  omega
theorem place_in (hb : ∀ l, 0 ≤ l → l < n → LG W l) (hn : 0 ≤ n) (h : 0 < SN W n c) : 0 ≤ c ∧ c < 1600 := by
  obtain ⟨l, t, h1, h2, h3⟩ := (SN_pos (fun l a b => (hb l a b).1) hn).mp h
  rw [← h3]
  exact sc_in (hb l h1.1 h1.2) h2.1 h2.2
theorem sc_place (hb : ∀ l, 0 ≤ l → l < n → LB W l) (hl : 0 ≤ l ∧ l < n) (ht : 0 ≤ t ∧ t < cT W l) : 0 < SN W n (sc W l t) := (SN_pos hb (by omega)).mpr ⟨l, t, hl, ht, rfl⟩
end GC
/-! labels, and the row of their cells -/
section LA
variable {W W' row row' lo lg sn : Int → Int} {wd hg c c' i n p v : Int}
def lbl (W : Int → Int) (c : Int) : Int := W (184 + c)
def inL (c p L i : Int) : Prop := fr c p L ≤ i ∧ i < fr c p L + L
/-- labels of the cells before n stand where they may -/
def GN (lo lg sn : Int → Int) (wd hg : Int) (W : Int → Int) (n : Int) : Prop := ∀ c, 0 ≤ c → c < n → lbl W c = -2 ∨ (0 ≤ lbl W c ∧ lbl W c < 8 ∧ 0 < sn c ∧ ¬offP wd hg c (lbl W c) (lg c) ∧ ¬onLn lo (fr c (lbl W c) (lg c)) (lg c))
/-- a row holds the owners of the cells of the labels of cells before n -/
def Own (lg W row : Int → Int) (n : Int) : Prop := ∀ i, 0 ≤ i → i < 1600 → (row i = -2 ∨ (0 ≤ row i ∧ row i < n ∧ 0 ≤ lbl W (row i) ∧ inL (row i) (lbl W (row i)) (lg (row i)) i)) ∧ ∀ c, 0 ≤ c → c < n → 0 ≤ lbl W c → inL c (lbl W c) (lg c) i → row i = c
theorem Own_uniq (h : Own lg W row n) (h' : Own lg W row' n) : ∀ i, 0 ≤ i → i < 1600 → row i = row' i := by
  intro i h1 h2
  rcases (h i h1 h2).1 with e | ⟨e1, e2, e3, e4⟩
  · rcases (h' i h1 h2).1 with e' | ⟨e1, e2, e3, e4⟩
    · rw [e, e']
    · rw [(h i h1 h2).2 _ e1 e2 e3 e4]
  · rw [(h' i h1 h2).2 _ e1 e2 e3 e4]
theorem Own_bd (h : Own lg W row n) (hn : n ≤ 1600) : ∀ i, 0 ≤ i → i < 1600 → -2 ≤ row i ∧ row i < 1600 := by
  intro i h1 h2
  rcases (h i h1 h2).1 with e | ⟨e1, e2, _⟩ <;> omega
theorem lbl_ru (h : 0 ≤ c) (h' : 0 ≤ c') : lbl (ru W (184 + c) v) c' = if c' = c then v else lbl W c' := by
  unfold lbl ru
  by_cases e : c' = c
  · rw [if_pos e, if_pos (by omega)]
  · rw [if_neg e, if_neg (by omega)]
theorem sameL_ru (h : 0 ≤ c) : sameL (ru W (184 + c) v) W := fun j h1 h2 => ru_ne (by omega)
/-- a label is taken -/
theorem Own_take (hc : 0 ≤ c ∧ c < n) (h : Own lg W row n) (hl : 0 ≤ lbl W c) : Own lg (ru W (184 + c) (-2)) (pnt row (fr c (lbl W c) (lg c)) (lg c) (-2)) n := by
  intro i h1 h2
  have x := h i h1 h2
  unfold pnt
  by_cases hi : fr c (lbl W c) (lg c) ≤ i ∧ i < fr c (lbl W c) (lg c) + lg c
  · rw [if_pos hi]
    refine ⟨Or.inl rfl, fun c' h3 h4 h5 h6 => ?_⟩
    rw [lbl_ru hc.1 h3] at h5 h6
    by_cases e : c' = c
    · rw [if_pos e] at h5; omega
    · rw [if_neg e] at h5 h6
      have e1 := x.2 c' h3 h4 h5 h6
      have e2 := x.2 c hc.1 hc.2 hl hi
      omega
  · rw [if_neg hi]
    constructor
    · rcases x.1 with e | ⟨e1, e2, e3, e4⟩
      · exact Or.inl e
      · have hne : row i ≠ c := fun e => hi (by rw [e] at e4; exact e4)
        refine Or.inr ⟨e1, e2, ?_, ?_⟩
        · rw [lbl_ru hc.1 e1, if_neg hne]; exact e3
        · rw [lbl_ru hc.1 e1, if_neg hne]; exact e4
    · intro c' h3 h4 h5 h6
      rw [lbl_ru hc.1 h3] at h5 h6
      by_cases e : c' = c
      · rw [if_pos e] at h5; omega
      · rw [if_neg e] at h5 h6
        exact x.2 c' h3 h4 h5 h6
theorem GN_take (hc : 0 ≤ c) (h : GN lo lg sn wd hg W n) : GN lo lg sn wd hg (ru W (184 + c) (-2)) n := by
  intro c' h1 h2
  rw [lbl_ru hc h1]
  by_cases e : c' = c
  · rw [if_pos e]; exact Or.inl rfl
  · rw [if_neg e]; exact h c' h1 h2
/-- a label is put where it is free -/
theorem Own_put (hc : 0 ≤ c ∧ c < n) (h : Own lg W row n) (hl : lbl W c < 0) (hp : 0 ≤ p) (hf : ¬onLb row (fr c p (lg c)) (lg c) c) : Own lg (ru W (184 + c) p) (pnt row (fr c p (lg c)) (lg c) c) n := by
  intro i h1 h2
  have x := h i h1 h2
  unfold pnt
  by_cases hi : fr c p (lg c) ≤ i ∧ i < fr c p (lg c) + lg c
  · rw [if_pos hi]
    refine ⟨Or.inr ⟨hc.1, hc.2, ?_, ?_⟩, fun c' h3 h4 h5 h6 => ?_⟩
    · rw [lbl_ru hc.1 hc.1, if_pos rfl]; exact hp
    · rw [lbl_ru hc.1 hc.1, if_pos rfl]; exact hi
    · rw [lbl_ru hc.1 h3] at h5 h6
      by_cases e : c' = c
      · exact e.symm
      · rw [if_neg e] at h5 h6
        have e1 := x.2 c' h3 h4 h5 h6
        exact absurd ⟨i, hi.1, hi.2, by unfold oth; omega⟩ hf
  · rw [if_neg hi]
    constructor
    · rcases x.1 with e | ⟨e1, e2, e3, e4⟩
      · exact Or.inl e
      · have hne : row i ≠ c := fun e => by rw [e] at e3; omega
        refine Or.inr ⟨e1, e2, ?_, ?_⟩
        · rw [lbl_ru hc.1 e1, if_neg hne]; exact e3
        · rw [lbl_ru hc.1 e1, if_neg hne]; exact e4
    · intro c' h3 h4 h5 h6
      rw [lbl_ru hc.1 h3] at h5 h6
      by_cases e : c' = c
      · rw [if_pos e] at h6
        rw [e] at h6
        exact absurd h6 hi
      · rw [if_neg e] at h5 h6
        exact x.2 c' h3 h4 h5 h6
theorem GN_put (hc : 0 ≤ c) (h : GN lo lg sn wd hg W n) (hp : 0 ≤ p ∧ p < 8) (hs : 0 < sn c) (ho : ¬offP wd hg c p (lg c)) (hl : ¬onLn lo (fr c p (lg c)) (lg c)) : GN lo lg sn wd hg (ru W (184 + c) p) n := by
  intro c' h1 h2
  rw [lbl_ru hc h1]
  by_cases e : c' = c
  · rw [if_pos e, e]
    exact Or.inr ⟨hp.1, hp.2, hs, ho, hl⟩
  · rw [if_neg e]; exact h c' h1 h2
/-- labels refitted, cell by cell: the world and the row -/
noncomputable def rfN (lo lg sn : Int → Int) (wd hg : Int) (W r0 : Int → Int) : Nat → (Int → Int) × (Int → Int)
  | 0 => (W, r0)
  | n + 1 => if lbl W n < 0 then rfN lo lg sn wd hg W r0 n else (if 0 < sn n ∧ whyP lo lg (rfN lo lg sn wd hg W r0 n).2 wd hg n (lbl W n) = 0 then ((rfN lo lg sn wd hg W r0 n).1, pnt (rfN lo lg sn wd hg W r0 n).2 (fr n (lbl W n) (lg n)) (lg n) n) else (ru (rfN lo lg sn wd hg W r0 n).1 (184 + n) (-2), (rfN lo lg sn wd hg W r0 n).2))
noncomputable def rf (lo lg sn : Int → Int) (wd hg : Int) (W r0 : Int → Int) (n : Int) : (Int → Int) × (Int → Int) := rfN lo lg sn wd hg W r0 n.toNat
theorem rf_0 {r0 : Int → Int} : rf lo lg sn wd hg W r0 0 = (W, r0) := rfl
theorem rf_s {r0 : Int → Int} (h : 0 ≤ n) : rf lo lg sn wd hg W r0 (n + 1) = if lbl W n < 0 then rf lo lg sn wd hg W r0 n else (if 0 < sn n ∧ whyP lo lg (rf lo lg sn wd hg W r0 n).2 wd hg n (lbl W n) = 0 then ((rf lo lg sn wd hg W r0 n).1, pnt (rf lo lg sn wd hg W r0 n).2 (fr n (lbl W n) (lg n)) (lg n) n) else (ru (rf lo lg sn wd hg W r0 n).1 (184 + n) (-2), (rf lo lg sn wd hg W r0 n).2)) := by
  unfold rf
  rw [show (n + 1).toNat = n.toNat + 1 by omega]
  have e : ((n.toNat : Nat) : Int) = n := by omega
  show (if lbl W (n.toNat : Int) < 0 then _ else _) = _
  rw [e]
def lblOk (W : Int → Int) : Prop := ∀ c, 0 ≤ c → c < 1600 → lbl W c = -2 ∨ (0 ≤ lbl W c ∧ lbl W c < 8)
theorem rf_inv {r0 : Int → Int} (hr : ∀ i, 0 ≤ i → i < 1600 → r0 i = -2) (hW : lblOk W) : ∀ n, 0 ≤ n → n ≤ 1600 → (∀ j, j < 184 ∨ 184 + n ≤ j → (rf lo lg sn wd hg W r0 n).1 j = W j) ∧ GN lo lg sn wd hg (rf lo lg sn wd hg W r0 n).1 n ∧ Own lg (rf lo lg sn wd hg W r0 n).1 (rf lo lg sn wd hg W r0 n).2 n ∧ ∀ c, 0 ≤ c → c < n → lbl (rf lo lg sn wd hg W r0 n).1 c = lbl W c ∨ lbl (rf lo lg sn wd hg W r0 n).1 c = -2 := by
  refine int_ind_le ?_ (fun n h1 h2 ih => ?_)
  · rw [rf_0]
    exact ⟨fun j _ => rfl, fun c c1 c2 => by omega, fun i i1 i2 => ⟨Or.inl (hr i i1 i2), fun c c1 c2 => by omega⟩, fun c c1 c2 => by omega⟩
  · generalize hq : rf lo lg sn wd hg W r0 n = q at ih
    obtain ⟨w, r⟩ := q
    obtain ⟨i1, i2, i3, i4⟩ := ih
    change ∀ j, j < 184 ∨ 184 + n ≤ j → w j = W j at i1
    change GN lo lg sn wd hg w n at i2
    change Own lg w r n at i3
    change ∀ c, 0 ≤ c → c < n → lbl w c = lbl W c ∨ lbl w c = -2 at i4
    have en : lbl w n = lbl W n := i1 _ (by omega)
    rw [rf_s h1, hq]
    by_cases hneg : lbl W n < 0
    · rw [if_pos hneg]
      refine ⟨fun j hj => i1 j (by omega), fun c c1 c2 => ?_, fun i j1 j2 => ⟨?_, fun c c1 c2 c3 c4 => ?_⟩, fun c c1 c2 => ?_⟩
      · by_cases e : c < n
        · exact i2 c c1 e
        · rw [show c = n by omega]
          show lbl w n = -2 ∨ _
          rw [en]
          rcases hW n h1 h2 with x | x
          · exact Or.inl x
          · omega
      · rcases (i3 i j1 j2).1 with x | ⟨x1, x2, x3⟩
        · exact Or.inl x
        · exact Or.inr ⟨x1, by show r i < n + 1; omega, x3⟩
      · by_cases e : c < n
        · exact (i3 i j1 j2).2 c c1 e c3 c4
        · rw [show c = n by omega] at c3
          change 0 ≤ lbl w n at c3
          omega
      · by_cases e : c < n
        · exact i4 c c1 e
        · rw [show c = n by omega]; exact Or.inl en
    · rw [if_neg hneg]
      have hb := hW n h1 h2
      by_cases hfit : 0 < sn n ∧ whyP lo lg r wd hg n (lbl W n) = 0
      · rw [if_pos hfit]
        have hfree := why_free hfit.2
        refine ⟨fun j hj => i1 j (by omega), fun c c1 c2 => ?_, fun i j1 j2 => ?_, fun c c1 c2 => ?_⟩
        · by_cases e : c < n
          · exact i2 c c1 e
          · rw [show c = n by omega]
            show lbl w n = -2 ∨ (0 ≤ lbl w n ∧ lbl w n < 8 ∧ 0 < sn n ∧ ¬offP wd hg n (lbl w n) (lg n) ∧ ¬onLn lo (fr n (lbl w n) (lg n)) (lg n))
            rw [en]
            exact Or.inr ⟨by omega, by omega, hfit.1, hfree.1, hfree.2.1⟩
        · show (pnt r (fr n (lbl W n) (lg n)) (lg n) n i = -2 ∨ (0 ≤ pnt r (fr n (lbl W n) (lg n)) (lg n) n i ∧ pnt r (fr n (lbl W n) (lg n)) (lg n) n i < n + 1 ∧ 0 ≤ lbl w (pnt r (fr n (lbl W n) (lg n)) (lg n) n i) ∧ inL (pnt r (fr n (lbl W n) (lg n)) (lg n) n i) (lbl w (pnt r (fr n (lbl W n) (lg n)) (lg n) n i)) (lg (pnt r (fr n (lbl W n) (lg n)) (lg n) n i)) i)) ∧ ∀ c, 0 ≤ c → c < n + 1 → 0 ≤ lbl w c → inL c (lbl w c) (lg c) i → pnt r (fr n (lbl W n) (lg n)) (lg n) n i = c
          have x := i3 i j1 j2
          unfold pnt
          by_cases hi : fr n (lbl W n) (lg n) ≤ i ∧ i < fr n (lbl W n) (lg n) + lg n
          · rw [if_pos hi]
            refine ⟨Or.inr ⟨h1, by omega, by omega, by rw [en]; exact hi⟩, fun c c1 c2 c3 c4 => ?_⟩
            by_cases e : c < n
            · have e1 := x.2 c c1 e c3 c4
              exact absurd ⟨i, hi.1, hi.2, by unfold oth; omega⟩ hfree.2.2
            · omega
          · rw [if_neg hi]
            constructor
            · rcases x.1 with e | ⟨e1, e2, e3⟩
              · exact Or.inl e
              · exact Or.inr ⟨e1, by omega, e3⟩
            · intro c c1 c2 c3 c4
              by_cases e : c < n
              · exact x.2 c c1 e c3 c4
              · rw [show c = n by omega, en] at c4
                exact absurd c4 hi
        · by_cases e : c < n
          · exact i4 c c1 e
          · rw [show c = n by omega]; exact Or.inl en
      · rw [if_neg hfit]
        have lr : ∀ c, 0 ≤ c → lbl (ru w (184 + n) (-2)) c = if c = n then -2 else lbl w c := fun c c1 => lbl_ru h1 c1
        refine ⟨fun j hj => ?_, fun c c1 c2 => ?_, fun i j1 j2 => ?_, fun c c1 c2 => ?_⟩
        · show ru w (184 + n) (-2) j = W j
          rw [ru_ne (by omega)]
          exact i1 j (by omega)
        · show lbl (ru w (184 + n) (-2)) c = -2 ∨ _
          by_cases e : c < n
          · have := i2 c c1 e
            show lbl (ru w (184 + n) (-2)) c = -2 ∨ (0 ≤ lbl (ru w (184 + n) (-2)) c ∧ lbl (ru w (184 + n) (-2)) c < 8 ∧ 0 < sn c ∧ ¬offP wd hg c (lbl (ru w (184 + n) (-2)) c) (lg c) ∧ ¬onLn lo (fr c (lbl (ru w (184 + n) (-2)) c) (lg c)) (lg c))
            rw [lr c c1, if_neg (by omega)]
            exact this
          · rw [lr c c1, if_pos (by omega)]
            exact Or.inl rfl
        · have x := i3 i j1 j2
          show (r i = -2 ∨ (0 ≤ r i ∧ r i < n + 1 ∧ 0 ≤ lbl (ru w (184 + n) (-2)) (r i) ∧ inL (r i) (lbl (ru w (184 + n) (-2)) (r i)) (lg (r i)) i)) ∧ ∀ c, 0 ≤ c → c < n + 1 → 0 ≤ lbl (ru w (184 + n) (-2)) c → inL c (lbl (ru w (184 + n) (-2)) c) (lg c) i → r i = c
          constructor
          · rcases x.1 with e | ⟨e1, e2, e3⟩
            · exact Or.inl e
            · rw [lr _ e1, if_neg (by omega)]
              exact Or.inr ⟨e1, by omega, e3⟩
          · intro c c1 c2 c3 c4
            rw [lr c c1] at c3 c4
            by_cases e : c = n
            · rw [if_pos e] at c3; omega
            · rw [if_neg e] at c3 c4
              exact x.2 c c1 (by omega) c3 c4
        · show lbl (ru w (184 + n) (-2)) c = _ ∨ lbl (ru w (184 + n) (-2)) c = _
          rw [lr c c1]
          by_cases e : c = n
          · rw [if_pos e]; exact Or.inr rfl
          · rw [if_neg e]; exact i4 c c1 (by omega)
/-- in a good world no label is lost -/
theorem rf_good {r0 : Int → Int} (hc : 4 ≤ wd ∧ wd ≤ 40) (hh : 4 ≤ hg ∧ hg ≤ 40) (hr : ∀ i, 0 ≤ i → i < 1600 → r0 i = -2) (hG : GN lo lg sn wd hg W 1600) (hO : Own lg W row 1600) : ∀ n, 0 ≤ n → n ≤ 1600 → (rf lo lg sn wd hg W r0 n).1 = W := by
  have hW : lblOk W := fun c c1 c2 => by
    rcases hG c c1 c2 with e | ⟨e1, e2, _⟩
    · exact Or.inl e
    · exact Or.inr ⟨e1, e2⟩
  refine int_ind_le rfl (fun n h1 h2 ih => ?_)
  have inv := rf_inv (lo := lo) (lg := lg) (sn := sn) (wd := wd) (hg := hg) hr hW n h1 (by omega)
  rw [rf_s h1]
  by_cases hneg : lbl W n < 0
  · rw [if_pos hneg]; exact ih
  · rw [if_neg hneg]
    rcases hG n h1 h2 with e | ⟨e1, e2, e3, e4, e5⟩
    · omega
    · have hw : whyP lo lg (rf lo lg sn wd hg W r0 n).2 wd hg n (lbl W n) = 0 := by
        refine why_0 e4 e5 ?_
        rintro ⟨i, i1, i2, i3, i4⟩
        have hi := fr_in (i := i) ⟨h1, h2⟩ hc hh e4 i1 i2
        rcases (inv.2.2.1 i hi.1 hi.2).1 with x | ⟨x1, x2, x3, x4⟩
        · omega
        · rw [ih] at x3 x4
          have y1 := (hO i hi.1 hi.2).2 _ x1 (by omega) x3 x4
          have y2 := (hO i hi.1 hi.2).2 n h1 h2 e1 ⟨i1, i2⟩
          omega
      rw [if_pos ⟨e3, hw⟩]
      exact ih
/-- how many labels there are before a cell -/
noncomputable def rk (W : Int → Int) (c : Int) : Int := cnt (fun i => 0 ≤ lbl W i) c
theorem rk_0 : rk W 0 = 0 := rfl
theorem rk_s1 (h : 0 ≤ c) (hl : 0 ≤ lbl W c) : rk W (c + 1) = rk W c + 1 := by
  unfold rk
  rw [cnt_s h, b01_pos hl]
theorem rk_s0 (h : 0 ≤ c) (hl : lbl W c < 0) : rk W (c + 1) = rk W c := by
  unfold rk
  rw [cnt_s h, b01_neg (by omega), Int.add_zero]
theorem rk_mono (h : 0 ≤ c) (h2 : c ≤ c') : rk W c ≤ rk W c' := cnt_mono h h2
theorem rk_bd (h : 0 ≤ c) : 0 ≤ rk W c ∧ rk W c ≤ c := cnt_bd h
theorem rk_lt (h : 0 ≤ c) (h2 : c < c') (hl : 0 ≤ lbl W c) : rk W c < rk W c' := by
  have := rk_s1 h hl
  have := rk_mono (W := W) (c := c + 1) (c' := c') (by omega) (by omega)
  omega
theorem rk_surj : ∀ n, 0 ≤ n → ∀ i, 0 ≤ i → i < rk W n → ∃ c, 0 ≤ c ∧ c < n ∧ 0 ≤ lbl W c ∧ rk W c = i := by
  refine int_ind ?_ (fun n h1 ih => ?_)
  · intro i h1 h2
    rw [rk_0] at h2
    omega
  · intro i h2 h3
    by_cases hl : 0 ≤ lbl W n
    · rw [rk_s1 h1 hl] at h3
      by_cases e : i < rk W n
      · obtain ⟨c, c1, c2, c3⟩ := ih i h2 e
        exact ⟨c, c1, by omega, c3⟩
      · exact ⟨n, h1, by omega, hl, by omega⟩
    · rw [rk_s0 h1 (by omega)] at h3
      obtain ⟨c, c1, c2, c3⟩ := ih i h2 h3
      exact ⟨c, c1, by omega, c3⟩
end LA
