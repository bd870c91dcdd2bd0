/-! the law's start: what the Statement gives, as the abstract heap has it -/
theorem xm_1 {w : Cond} (i : Nat) (h : tables_1_1[i]? = some w) : w ∈ lw_tbl := List.mem_append_right _ (by have h1 := List.mem_of_getElem? h; unfold tables_1; simp only [List.mem_append]; simp [h1])
theorem xm_2 {w : Cond} (i : Nat) (h : tables_1_2[i]? = some w) : w ∈ lw_tbl := List.mem_append_right _ (by have h1 := List.mem_of_getElem? h; unfold tables_1; simp only [List.mem_append]; simp [h1])
theorem xm_3 {w : Cond} (i : Nat) (h : tables_1_3[i]? = some w) : w ∈ lw_tbl := List.mem_append_right _ (by have h1 := List.mem_of_getElem? h; unfold tables_1; simp only [List.mem_append]; simp [h1])
theorem xm_4 {w : Cond} (i : Nat) (h : tables_1_4[i]? = some w) : w ∈ lw_tbl := List.mem_append_right _ (by have h1 := List.mem_of_getElem? h; unfold tables_1; simp only [List.mem_append]; simp [h1])
theorem xm_5 {w : Cond} (i : Nat) (h : tables_1_5[i]? = some w) : w ∈ lw_tbl := List.mem_append_right _ (by have h1 := List.mem_of_getElem? h; unfold tables_1; simp only [List.mem_append]; simp [h1])
theorem xm_w {w : Cond} (h : w ∈ xw) : w ∈ lw_tbl := (List.mem_filter.mp h).1
def acrF (j : Nat) : Int32 := ([1, 1, 0, -1, -1, -1, 0, 1] : List Int32).getD j 0
def dwnF (j : Nat) : Int32 := ([0, 1, 1, 1, 0, -1, -1, -1] : List Int32).getD j 0
def wayF (j : Nat) : Int32 := ([5, 6, 7, 4, -1, 0, 3, 2, 1] : List Int32).getD j 0
def txN : List Nat := [5, 5, 5, 5, 6, 3]
def txB : List (List Int32) := [[98, 111, 97, 114, 100], [32, 116, 117, 114, 110], [108, 105, 110, 101, 32], [32, 115, 105, 122, 101], [32, 115, 116, 111, 112, 115], [32, 97, 116]]
def txK : List Nat := [59, 69, 78, 83, 88, 93]
/-- the abstract heap at the law's entry -/
def XInit (h : XH) (b L : Nat) (xs : Nat → Int32) : Prop :=
  (∀ a, h.2 a = none) ∧ (∃ n f, h.1.2.1 b = some (n, f) ∧ n = L ∧ ∀ j, j < n → f j = xs j) ∧
  (∃ t n f, h.1.1 0 = .ref t ∧ h.1.2.1 t = some (n, f) ∧ n = 8 ∧ ∀ j, j < n → f j = acrF j) ∧ (∃ t n f, h.1.1 1 = .ref t ∧ h.1.2.1 t = some (n, f) ∧ n = 8 ∧ ∀ j, j < n → f j = dwnF j) ∧ (∃ t n f, h.1.1 2 = .ref t ∧ h.1.2.1 t = some (n, f) ∧ n = 9 ∧ ∀ j, j < n → f j = wayF j) ∧
  h.1.1 3 = .int 1 ∧ (h.1.1 4).category = 1 ∧
  ∀ k, k < 6 → ∃ a v F n f, h.1.1 (10 + k) = .ref a ∧ h.1.2.2.2 a = some F ∧ F 0 = .ref v ∧ F 1 = .int 0 ∧ h.1.2.2.1 v = some (n, f) ∧ n = txN.getD k 0 ∧ ∀ j, j < n → f j = (txB.getD k []).getD j 0
noncomputable def xpk {α : Type} (N : Nat) (ad : Nat → Nat) (e : Nat → α) : Nat → Option α := fun a => @dite (Option α) (∃ i, i < N ∧ ad i = a) (Classical.propDecidable _) (fun h => some (e (Classical.choose h))) (fun _ => none)
theorem xpk_some {α : Type} {N : Nat} {ad : Nat → Nat} {e : Nat → α} {a : Nat} {x : α} (h : xpk N ad e a = some x) : ∃ i, i < N ∧ ad i = a ∧ e i = x := by
  unfold xpk at h
  split at h
  · rename_i hx
    exact ⟨_, (Classical.choose_spec hx).1, (Classical.choose_spec hx).2, Option.some.inj h⟩
  · cases h
theorem xpk_at {α : Type} {N : Nat} {ad : Nat → Nat} {e : Nat → α} {i : Nat} (hi : i < N) : ∃ j, j < N ∧ ad j = ad i ∧ xpk N ad e (ad i) = some (e j) := by
  have hx : ∃ j, j < N ∧ ad j = ad i := ⟨i, hi, rfl⟩
  refine ⟨Classical.choose hx, (Classical.choose_spec hx).1, (Classical.choose_spec hx).2, ?_⟩
  unfold xpk
  rw [dif_pos hx]
theorem ofNat_inj32 {n m : Nat} (hn : n < 2 ^ 31) (hm : m < 2 ^ 31) (h : Int32.ofNat n = Int32.ofNat m) : n = m := by
  have h1 := nI_toInt hn
  have h2 := nI_toInt hm
  have h3 : nI n = nI m := h
  rw [h3, h2] at h1
  omega
/-- two arrays at one address are one -/
theorem va_T_same {ty ty2 : FieldType} {t n m : Nat} {f g : Nat → Int32} {A : Nat → Prop} {s : State} {H : Heap} (hn : n < 2 ^ 31) (hm : m < 2 ^ 31) (h1 : va_T ty t n (fun j => .int (f j)) A s H) (h2 : va_T ty2 t m (fun j => .int (g j)) A s H) : n = m ∧ ∀ j, j < n → f j = g j := by
  obtain ⟨c1, a1, a2, a3, a4, a5, a6, -⟩ := h1
  obtain ⟨c2, b1, b2, b3, b4, b5, b6, -⟩ := h2
  cases a1.symm.trans b1
  have e := ofNat_inj32 hn hm (a5.symm.trans b5)
  refine ⟨e, fun j hj => ?_⟩
  have := (a6 j hj).symm.trans (b6 j (by omega))
  simpa using this
theorem xro_of {ty : FieldType} {N : Nat} {ad len : Nat → Nat} {con : Nat → Nat → Int32} {s : State} (hl : ∀ i, i < N → len i < 2 ^ 31) (h : ∀ i, i < N → va_T ty (ad i) (len i) (fun j => .int (con i j)) (fun q => s.heap.size ≤ q) s s.heap) : xroA s.heap.size s s.heap ty (xpk N ad (fun i => (len i, con i))) := by
  intro a n f e
  obtain ⟨i, hi, rfl, hx⟩ := xpk_some e
  cases hx
  obtain ⟨c1, a1, a2, a3, a4, a5, a6, a7⟩ := h i hi
  exact ⟨(Array.getElem?_eq_some_iff.mp a1).1, hl i hi, c1, a1, a2, a3, a4, a5, a6⟩
theorem xro_at {ty : FieldType} {N : Nat} {ad len : Nat → Nat} {con : Nat → Nat → Int32} {s : State} (hl : ∀ i, i < N → len i < 2 ^ 31) (h : ∀ i, i < N → va_T ty (ad i) (len i) (fun j => .int (con i j)) (fun q => s.heap.size ≤ q) s s.heap) {i : Nat} (hi : i < N) : ∃ n f, xpk N ad (fun i => (len i, con i)) (ad i) = some (n, f) ∧ n = len i ∧ ∀ j, j < n → f j = con i j := by
  obtain ⟨j, hj, e1, e2⟩ := xpk_at (ad := ad) (e := fun i => (len i, con i)) hi
  have h2 := h j hj
  rw [e1] at h2
  obtain ⟨h3, h4⟩ := va_T_same (hl j hj) (hl i hi) h2 (h i hi)
  exact ⟨_, _, e2, h3, h4⟩
theorem xkn_of {s : State} {args : Array Value} (hts : ∀ w ∈ lw_tbl, w.before args s = true) (hS : ∃ c, s.vm.findClass "java/lang/String" = some c) (hv : ∃ cf kf fi f, s.fieldFound? "java/lang/String" "value" "[B" = some (cf, kf, fi, f) ∧ f.isStatic = false) (hc : ∃ cf kf fi f, s.fieldFound? "java/lang/String" "coder" "B" = some (cf, kf, fi, f) ∧ f.isStatic = false) : ∃ G : XG, XKn G s := by
  have hx : ∀ w ∈ xw, w.before args s = true := fun w hw => hts w (xm_w hw)
  have h1 : ∀ d : Nat, ∃ x : ClassId × (Nat → Nat), (∀ q, vwCl[d]? = some q → u_Kn s q.1 q.2.1 q.2.2 x.1 x.2) ∧ (d = 10 → s.vm.findClass "java/lang/String" = some x.1 ∧ (∃ cf kf fi f, s.fieldFound? "java/lang/String" "value" "[B" = some (cf, kf, fi, f) ∧ f.slot = x.2 0 ∧ f.isStatic = false) ∧ ∃ cf kf fi f, s.fieldFound? "java/lang/String" "coder" "B" = some (cf, kf, fi, f) ∧ f.slot = x.2 1 ∧ f.isStatic = false) := by
    intro d
    have own : ∀ {C : String} {T : u_T} {n : Nat}, vwCl[d]? = some (C, T, n) → Cond.instantiable C n ∈ lw_tbl → ∃ x : ClassId × (Nat → Nat), (∀ q, vwCl[d]? = some q → u_Kn s q.1 q.2.1 q.2.2 x.1 x.2) ∧ (d = 10 → s.vm.findClass "java/lang/String" = some x.1 ∧ (∃ cf kf fi f, s.fieldFound? "java/lang/String" "value" "[B" = some (cf, kf, fi, f) ∧ f.slot = x.2 0 ∧ f.isStatic = false) ∧ ∃ cf kf fi f, s.fieldFound? "java/lang/String" "coder" "B" = some (cf, kf, fi, f) ∧ f.slot = x.2 1 ∧ f.isStatic = false) := by
      intro C T n hq hi
      obtain ⟨c, iS, hk⟩ := u_known hx (xcls d _ hq).1 (hts _ hi)
      exact ⟨(c, iS), fun q hq2 => by cases hq.symm.trans hq2; exact hk, fun hd => by subst hd; simp [vwCl] at hq⟩
    match d with
    | 0 => exact own rfl (xm_1 195 rfl)
    | 1 => exact own rfl (xm_1 175 rfl)
    | 2 => exact own rfl (xm_1 75 rfl)
    | 3 => exact own rfl (xm_1 93 rfl)
    | 4 => exact own rfl (xm_1 45 rfl)
    | 5 => exact own rfl (xm_1 67 rfl)
    | 6 => exact own rfl (xm_1 28 rfl)
    | 7 => exact own rfl (xm_1 235 rfl)
    | 8 => exact own rfl (xm_1 20 rfl)
    | 9 => exact own rfl (xm_5 76 rfl)
    | 10 =>
      obtain ⟨c, hc1⟩ := hS
      obtain ⟨cf, kf, fi, f, f1, f2⟩ := hv
      obtain ⟨cf2, kf2, fi2, g, g1, g2⟩ := hc
      exact ⟨(c, fun k => if k = 0 then f.slot else g.slot), fun q hq => by simp [vwCl] at hq, fun _ => ⟨hc1, ⟨cf, kf, fi, f, f1, rfl, f2⟩, ⟨cf2, kf2, fi2, g, g1, rfl, g2⟩⟩⟩
    | d + 11 => exact ⟨(0, fun _ => 0), fun q hq => by simp [vwCl] at hq, fun h => by omega⟩
  obtain ⟨x, hx1⟩ := Classical.axiomOfChoice h1
  have har : ∀ ty : FieldType, (Cond.arrayClass ty).before args s = true → (∀ C, ty ≠ .object C) → ∃ cA, ArrOfT s cA ty ∧ va_RA s cA ty := by
    intro ty h hno
    obtain ⟨c, k, comp, q1, q2, q3⟩ := Cond.arrayClass_spec (args := args) (first := s) (o := none) (s := s) (idx := []) h
    refine ⟨c, fun n z => ⟨(fun k h => by cases h), k, q2, comp, q3⟩, ?_⟩
    cases ty <;> first | exact q1 | exact absurd rfl (hno _)
  obtain ⟨ci, ci1, ci2⟩ := har .int (hts _ (xm_1 92 rfl)) (fun C h => by cases h)
  obtain ⟨cb, cb1, cb2⟩ := har .byte (hts _ (xm_1 43 rfl)) (fun C h => by cases h)
  obtain ⟨cz, cz1, cz2⟩ := har .boolean (hts _ (xm_1 193 rfl)) (fun C h => by cases h)
  refine ⟨((fun k => (x k).1, fun k => (x k).2), fun k => if k = 0 then ci else if k = 1 then cb else cz), ⟨fun d q hq => (hx1 d).1 q hq, fun k q hq => ?_⟩, fun d q hq k hk => ?_, fun d q hq => ?_⟩
  · match k, hq with
    | 0, hq => cases hq; exact ⟨ci1, ci2⟩
    | 1, hq => cases hq; exact ⟨cb1, cb2⟩
    | 2, hq => cases hq; exact ⟨cz1, cz2⟩
    | k + 3, hq => simp at hq
  · by_cases hd : d < 10
    · have hq2 : vwCl[d]? = some q := by
        rw [xcl, List.getElem?_append_left (by simpa [vwCl] using hd)] at hq
        exact hq
      obtain ⟨hS1, hfc, kC, hkC, -⟩ := (hx1 d).1 q hq2
      obtain ⟨cf, kf, fi, f, hi, hsl⟩ := hS1 k hk
      exact ⟨cf, kf, fi, f, hi, hsl, (u_facts hfc hkC (u_lays hx (xcls d q hq2).1 hk) hi).1⟩
    · have hd10 : d = 10 := by
        have := (List.getElem?_eq_some_iff.mp hq).1
        simp [xcl, vwCl] at this
        omega
      subst hd10
      cases hq
      obtain ⟨-, h2, h3⟩ := (hx1 10).2 rfl
      rcases (show k = 0 ∨ k = 1 by have : k < 2 := hk; omega) with rfl | rfl
      · exact h2
      · exact h3
  · by_cases hd : d < 10
    · have hq2 : vwCl[d]? = some q := by
        rw [xcl, List.getElem?_append_left (by simpa [vwCl] using hd)] at hq
        exact hq
      exact ((hx1 d).1 q hq2).2.1
    · have hd10 : d = 10 := by
        have := (List.getElem?_eq_some_iff.mp hq).1
        simp [xcl, vwCl] at this
        omega
      subst hd10
      cases hq
      exact ((hx1 10).2 rfl).1
def txT (i : Nat) : Term := .string "LineDiagram$Plan" (txK.getD i 0)
set_option maxRecDepth 100000 in
set_option maxHeartbeats 4000000 in
theorem xinit {p : Program} {s : State} {m : MethodId} {meth : Method} {c : Code} {b L : Nat} {xs : Nat → Int32} (hL : L ≤ 3072) (C0 : lw_At p s m meth c b L xs) : ∃ (G : XG) (h : XH), XKn G s ∧ XRel G s.heap.size h s s.heap ∧ XStr h.1.1 s ∧ XInit h b L xs := by
  obtain ⟨hx, hb, hr, hml, hown, hts, hX, hbl, hlocks, hgv⟩ := C0
  have hs := flat_of_before _ hgv
  have hA : ∀ a : Nat, a < s.heap.size → ¬ s.heap.size ≤ a := fun a h => Nat.not_le.mpr h
  have six : ∀ i, i < 6 → i = 0 ∨ i = 1 ∨ i = 2 ∨ i = 3 ∨ i = 4 ∨ i = 5 := fun i hi => by omega
  obtain ⟨adK, adV, ⟨hT, hinj⟩, hE⟩ := vk_Sof (N := 6) (tm := txT) (len := txN) (byt := txB) (s := s) (args := #[Value.ref b]) (A := fun q => s.heap.size ≤ q)
    (fun i hi => by rcases six i hi with rfl | rfl | rfl | rfl | rfl | rfl <;> decide)
    (fun i hi => by rcases six i hi with rfl | rfl | rfl | rfl | rfl | rfl <;> exact hs _ (by decide +kernel))
    (fun i hi => by rcases six i hi with rfl | rfl | rfl | rfl | rfl | rfl <;> exact hs _ (by decide +kernel))
    (fun i hi => by rcases six i hi with rfl | rfl | rfl | rfl | rfl | rfl <;> exact hs _ (by decide +kernel))
    (fun i hi => by rcases six i hi with rfl | rfl | rfl | rfl | rfl | rfl <;> exact hs _ (by decide +kernel))
    (fun i hi j hj => by
      rcases six i hi with rfl | rfl | rfl | rfl | rfl | rfl
      · rcases (show j = 0 ∨ j = 1 ∨ j = 2 ∨ j = 3 ∨ j = 4 by have : j < 5 := hj; omega) with rfl | rfl | rfl | rfl | rfl <;> exact hs _ (by decide +kernel)
      · rcases (show j = 0 ∨ j = 1 ∨ j = 2 ∨ j = 3 ∨ j = 4 by have : j < 5 := hj; omega) with rfl | rfl | rfl | rfl | rfl <;> exact hs _ (by decide +kernel)
      · rcases (show j = 0 ∨ j = 1 ∨ j = 2 ∨ j = 3 ∨ j = 4 by have : j < 5 := hj; omega) with rfl | rfl | rfl | rfl | rfl <;> exact hs _ (by decide +kernel)
      · rcases (show j = 0 ∨ j = 1 ∨ j = 2 ∨ j = 3 ∨ j = 4 by have : j < 5 := hj; omega) with rfl | rfl | rfl | rfl | rfl <;> exact hs _ (by decide +kernel)
      · rcases (show j = 0 ∨ j = 1 ∨ j = 2 ∨ j = 3 ∨ j = 4 ∨ j = 5 by have : j < 6 := hj; omega) with rfl | rfl | rfl | rfl | rfl | rfl <;> exact hs _ (by decide +kernel)
      · rcases (show j = 0 ∨ j = 1 ∨ j = 2 by have : j < 3 := hj; omega) with rfl | rfl | rfl <;> exact hs _ (by decide +kernel))
    (fun i j hi hj hij => by
      rcases six i hi with rfl | rfl | rfl | rfl | rfl | rfl <;> rcases six j hj with rfl | rfl | rfl | rfl | rfl | rfl <;> first | exact absurd rfl hij | exact Or.inl (hs _ (by decide +kernel)) | exact Or.inr (hs _ (by decide +kernel))) hA
  -- static arrays
  have hst : ∀ (n : String) (N : Nat) (F : Nat → Int32), N < 2 ^ 31 → (Cond.arrayOf (.static "LineDiagram" n "[I") .int).before #[Value.ref b] s = true → (Cond.eq (.length (.static "LineDiagram" n "[I")) (.int (Int32.ofNat N))).before #[Value.ref b] s = true → (∀ j, j < N → (Cond.eq (.elem (.static "LineDiagram" n "[I") (.int (Int32.ofNat j))) (.int (F j))).before #[Value.ref b] s = true) → (Cond.laysStatic "LineDiagram" n "[I").before #[Value.ref b] s = true →
      ∃ t, va_Z "LineDiagram" n "[I" (.ref t) (fun q => s.heap.size ≤ q) s s.heap ∧ va_T .int t N (fun j => .int (F j)) (fun q => s.heap.size ≤ q) s s.heap := by
    intro n N F hN h1 h2 h3 h4
    obtain ⟨t, e1, e2⟩ := va_Tof (f := fun j => .int (F j)) (A := fun q => s.heap.size ≤ q) hN h1 (va_eqt h2) (fun j hj => va_eqt (h3 j hj)) hA
    exact ⟨t, va_Zof h4 (hts _ (xm_1 1 rfl)) e1 hA, e2⟩
  obtain ⟨ta, za, Ta⟩ := hst "ACROSS" 8 acrF (by decide) (hs _ (by decide +kernel)) (hs _ (by decide +kernel)) (fun j hj => by rcases (show j = 0 ∨ j = 1 ∨ j = 2 ∨ j = 3 ∨ j = 4 ∨ j = 5 ∨ j = 6 ∨ j = 7 by omega) with rfl | rfl | rfl | rfl | rfl | rfl | rfl | rfl <;> exact hs _ (by decide +kernel)) (hts _ (xm_2 225 rfl))
  obtain ⟨td, zd, Td⟩ := hst "DOWN" 8 dwnF (by decide) (hs _ (by decide +kernel)) (hs _ (by decide +kernel)) (fun j hj => by rcases (show j = 0 ∨ j = 1 ∨ j = 2 ∨ j = 3 ∨ j = 4 ∨ j = 5 ∨ j = 6 ∨ j = 7 by omega) with rfl | rfl | rfl | rfl | rfl | rfl | rfl | rfl <;> exact hs _ (by decide +kernel)) (hts _ (xm_2 227 rfl))
  obtain ⟨tw, zw, Tw⟩ := hst "WAY_BY_SIGNS" 9 wayF (by decide) (hs _ (by decide +kernel)) (hs _ (by decide +kernel)) (fun j hj => by rcases (show j = 0 ∨ j = 1 ∨ j = 2 ∨ j = 3 ∨ j = 4 ∨ j = 5 ∨ j = 6 ∨ j = 7 ∨ j = 8 by omega) with rfl | rfl | rfl | rfl | rfl | rfl | rfl | rfl | rfl <;> exact hs _ (by decide +kernel)) (hts _ (xm_2 154 rfl))
  have zc : va_Z "java/lang/String" "COMPACT_STRINGS" "Z" (.int 1) (fun q => s.heap.size ≤ q) s s.heap := va_Zof (hts _ (xm_5 9 rfl)) (hts _ (xm_1 15 rfl)) (va_eqi (hs _ (by decide +kernel))) hA
  obtain ⟨sv, zs, hsv⟩ : ∃ sv : Value, va_Z "jdk/internal/util/Preconditions" "SIOOBE_FORMATTER" "Ljava/util/function/BiFunction;" sv (fun q => s.heap.size ≤ q) s s.heap ∧ sv.category = 1 := by
    rcases va_Zqof (A := fun q => s.heap.size ≤ q) (hts _ (xm_5 25 rfl)) (hts _ (xm_1 17 rfl)) (hs (.isRef (.static "jdk/internal/util/Preconditions" "SIOOBE_FORMATTER" "Ljava/util/function/BiFunction;")) (by decide +kernel)) hA with h | ⟨t, h⟩
    · exact ⟨_, h, rfl⟩
    · exact ⟨_, h, rfl⟩
  -- the script
  obtain ⟨scr, x1, x2, x3, x4, x5⟩ := hX
  have Tb : va_T .int b L (fun j => .int (xs j)) (fun q => s.heap.size ≤ q) s s.heap := ⟨scr, x1, x2, x3, by omega, by rw [x4], x5, hA b hbl⟩
  -- the classes
  obtain ⟨⟨k1, k2, k3, k4⟩, ⟨cf1, kf1, fi1, f1, cl1, g1, g2, -⟩, ⟨cf2, kf2, fi2, f2, cl2, j1, j2, -⟩, -⟩ := hT 0 (by decide)
  obtain ⟨G, hK⟩ := xkn_of hts ⟨_, k4.1⟩ ⟨cf2, kf2, fi2, f2, j1, j2⟩ ⟨cf1, kf1, fi1, f1, g1, g2⟩
  have hrI : ∀ i, i < 4 → va_T .int (if i = 0 then b else if i = 1 then ta else if i = 2 then td else tw) (if i = 0 then L else if i = 1 then 8 else if i = 2 then 8 else 9) (fun j => .int ((if i = 0 then xs else if i = 1 then acrF else if i = 2 then dwnF else wayF) j)) (fun q => s.heap.size ≤ q) s s.heap := by
    intro i hi
    rcases (show i = 0 ∨ i = 1 ∨ i = 2 ∨ i = 3 by omega) with rfl | rfl | rfl | rfl
    · exact Tb
    · exact Ta
    · exact Td
    · exact Tw
  have hlI : ∀ i, i < 4 → (if i = 0 then L else if i = 1 then 8 else if i = 2 then 8 else 9) < 2 ^ 31 := by
    intro i hi
    rcases (show i = 0 ∨ i = 1 ∨ i = 2 ∨ i = 3 by omega) with rfl | rfl | rfl | rfl <;> simp <;> omega
  have hrB : ∀ i, i < 6 → va_T .byte (adV i) (txN.getD i 0) (fun j => .int ((txB.getD i []).getD j 0)) (fun q => s.heap.size ≤ q) s s.heap := fun i hi => (hT i hi).2.2.2
  have hlB : ∀ i, i < 6 → txN.getD i 0 < 2 ^ 31 := fun i hi => by rcases six i hi with rfl | rfl | rfl | rfl | rfl | rfl <;> decide
  refine ⟨G, (((fun k => if k = 0 then .ref ta else if k = 1 then .ref td else if k = 2 then .ref tw else if k = 3 then .int 1 else if k = 4 then sv else .ref (adK (k - 10))), xpk 4 (fun i => if i = 0 then b else if i = 1 then ta else if i = 2 then td else tw) (fun i => (if i = 0 then L else if i = 1 then 8 else if i = 2 then 8 else 9, if i = 0 then xs else if i = 1 then acrF else if i = 2 then dwnF else wayF)), xpk 6 adV (fun i => (txN.getD i 0, fun j => (txB.getD i []).getD j 0)), xpk 6 adK (fun i => fun k => if k = 0 then .ref (adV i) else .int 0)), fun _ => none), hK, ⟨Nat.le_refl _, fun a e h => (by cases h), fun k q hq => ?_, xro_of (con := fun i => if i = 0 then xs else if i = 1 then acrF else if i = 2 then dwnF else wayF) hlI hrI, xro_of (con := fun i j => (txB.getD i []).getD j 0) hlB hrB, fun a F h => ?_⟩, ⟨fun k q hq => ?_, fun w hw => ?_, ?_, ?_⟩, fun _ => rfl, ?_, ?_, ?_, ?_, rfl, hsv, fun k hk => ?_⟩
  · match k, hq with
    | 0, hq => cases hq; exact za
    | 1, hq => cases hq; exact zd
    | 2, hq => cases hq; exact zw
    | 3, hq => cases hq; exact zc
    | 4, hq => cases hq; exact zs
    | k + 5, hq => simp [xsts] at hq
  · obtain ⟨i, hi, rfl, rfl⟩ := xpk_some (N := 6) (ad := adK) (e := fun i => fun k => if k = 0 then Value.ref (adV i) else Value.int 0) h
    obtain ⟨⟨cell, a1, a2, a3, a4⟩, ⟨cf, kf, fi, f, cell2, b1, b2, b3, b4, b5, b6⟩, ⟨cf', kf', fi', f', cell3, d1, d2, d3, d4, d5, d6⟩, -⟩ := hT i hi
    cases a1.symm.trans b3
    cases a1.symm.trans d3
    obtain ⟨cfa, kfa, fia, fa, e1, e2, e3⟩ := hK.2.1 10 ("java/lang/String", TXs, 2) rfl 0 (by decide)
    obtain ⟨cfb, kfb, fib, fb, e4, e5, e6⟩ := hK.2.1 10 ("java/lang/String", TXs, 2) rfl 1 (by decide)
    have q1 := d1.symm.trans e1
    have q2 := b1.symm.trans e4
    simp only [Option.some.injEq, Prod.mk.injEq] at q1 q2
    refine ⟨(Array.getElem?_eq_some_iff.mp a1).1, cell, a1, a2, b4, a3, ?_, ?_⟩
    · rw [← e2, ← q1.2.2.2]; exact d5
    · rw [← e5, ← q2.2.2.2]; exact b5
  · have hk6 : k < 6 := (List.getElem?_eq_some_iff.mp hq).1
    refine ⟨adK k, ?_, ?_⟩
    · show (if 10 + k = 0 then _ else _) = _
      rw [if_neg (by omega), if_neg (by omega), if_neg (by omega), if_neg (by omega), if_neg (by omega), Nat.add_sub_cancel_left]
    · have hev := hE k hk6
      match k, hq with
      | 0, hq => cases hq; exact vk_R.of (hts _ (xm_4 235 rfl)) hev
      | 1, hq => cases hq; exact vk_R.of (hts _ (xm_5 52 rfl)) hev
      | 2, hq => cases hq; exact vk_R.of (hts _ (xm_5 57 rfl)) hev
      | 3, hq => cases hq; exact vk_R.of (hts _ (xm_5 63 rfl)) hev
      | 4, hq => cases hq; exact vk_R.of (hts _ (xm_5 64 rfl)) hev
      | 5, hq => cases hq; exact vk_R.of (hts _ (xm_5 65 rfl)) hev
      | k + 6, hq => simp [xstrs] at hq
  · have hw2 : w ∈ lw_tbl := List.mem_append_right _ (by
      have h1 : xnw.all (fun w => decide (w ∈ tables_1)) = true := by decide +kernel
      exact of_decide_eq_true (List.all_eq_true.mp h1 w hw))
    have h1 := hts w hw2
    simp only [xnw, List.mem_cons, List.not_mem_nil, or_false] at hw
    rcases hw with rfl | rfl | rfl | rfl | rfl | rfl | rfl | rfl | rfl | rfl | rfl | rfl | rfl | rfl | rfl | rfl
    all_goals exact va_Nw.of rfl h1
  · exact va_AO.of (hts _ (xm_1 73 rfl))
  · exact va_AO.of (hts _ (xm_1 173 rfl))
  · exact xro_at (con := fun i => if i = 0 then xs else if i = 1 then acrF else if i = 2 then dwnF else wayF) hlI hrI (i := 0) (by decide)
  · obtain ⟨n, f, h1, h2⟩ := xro_at (con := fun i => if i = 0 then xs else if i = 1 then acrF else if i = 2 then dwnF else wayF) hlI hrI (i := 1) (by decide)
    exact ⟨ta, n, f, rfl, h1, h2⟩
  · obtain ⟨n, f, h1, h2⟩ := xro_at (con := fun i => if i = 0 then xs else if i = 1 then acrF else if i = 2 then dwnF else wayF) hlI hrI (i := 2) (by decide)
    exact ⟨td, n, f, rfl, h1, h2⟩
  · obtain ⟨n, f, h1, h2⟩ := xro_at (con := fun i => if i = 0 then xs else if i = 1 then acrF else if i = 2 then dwnF else wayF) hlI hrI (i := 3) (by decide)
    exact ⟨tw, n, f, rfl, h1, h2⟩
  · obtain ⟨n, f, h1, h2, h3⟩ := xro_at (con := fun i j => (txB.getD i []).getD j 0) hlB hrB hk
    obtain ⟨j, hj, e1, e2⟩ := xpk_at (ad := adK) (e := fun i => fun k => if k = 0 then Value.ref (adV i) else Value.int 0) hk
    cases hinj j k hj hk e1
    refine ⟨adK k, adV k, _, n, f, ?_, e2, rfl, rfl, h1, h2, h3⟩
    show (if 10 + k = 0 then _ else _) = _
    rw [if_neg (by omega), if_neg (by omega), if_neg (by omega), if_neg (by omega), if_neg (by omega), Nat.add_sub_cancel_left]
