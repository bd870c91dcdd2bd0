/-! What the abstract heap says of the machine's. -/
def xw : List Cond := lw_tbl.filter goodWord
theorem xw_in {w : Cond} (i : Nat) (h : lw_tbl[i]? = some w) (g : goodWord w = true) : w ∈ xw := List.mem_filter.mpr ⟨List.mem_of_getElem? h, g⟩
theorem xw_mem {w : Cond} (h : w ∈ tables_1) (g : goodWord w = true) : w ∈ xw := List.mem_filter.mpr ⟨List.mem_append_right _ h, g⟩
theorem xw_sel {q : MethodName × Nat} (h : q ∈ lw_privs) (g : goodWord (Cond.selects q.1.cls q.1 q.1) = true) : Cond.selects q.1.cls q.1 q.1 ∈ xw := List.mem_filter.mpr ⟨List.mem_append_left _ (List.mem_map.mpr ⟨q, h, rfl⟩), g⟩
theorem xw_good {w : Cond} (h : w ∈ xw) : (w.onTables && w.keeps) = true ∨ ∃ ty, w = .arrayClass ty := good_of_word (List.mem_filter.mp h).2
theorem xw_t1 {w : Cond} (i : Nat) (h : tables_1_1[i]? = some w) (g : goodWord w = true) : w ∈ xw := xw_mem (by have h1 := List.mem_of_getElem? h; unfold tables_1; simp only [List.mem_append]; simp [h1]) g
theorem xw_p1 {y : MethodName} (i n : Nat) (h : lw_privs_1[i]? = some (y, n)) (g : goodWord (Cond.selects y.cls y y) = true) : Cond.selects y.cls y y ∈ xw := xw_sel (q := (y, n)) (by have h1 := List.mem_of_getElem? h; unfold lw_privs; simp only [List.mem_append]; simp [h1]) g
theorem xw_t2 {w : Cond} (i : Nat) (h : tables_1_2[i]? = some w) (g : goodWord w = true) : w ∈ xw := xw_mem (by have h1 := List.mem_of_getElem? h; unfold tables_1; simp only [List.mem_append]; simp [h1]) g
theorem xw_p2 {y : MethodName} (i n : Nat) (h : lw_privs_2[i]? = some (y, n)) (g : goodWord (Cond.selects y.cls y y) = true) : Cond.selects y.cls y y ∈ xw := xw_sel (q := (y, n)) (by have h1 := List.mem_of_getElem? h; unfold lw_privs; simp only [List.mem_append]; simp [h1]) g
theorem xw_t3 {w : Cond} (i : Nat) (h : tables_1_3[i]? = some w) (g : goodWord w = true) : w ∈ xw := xw_mem (by have h1 := List.mem_of_getElem? h; unfold tables_1; simp only [List.mem_append]; simp [h1]) g
theorem xw_p3 {y : MethodName} (i n : Nat) (h : lw_privs_3[i]? = some (y, n)) (g : goodWord (Cond.selects y.cls y y) = true) : Cond.selects y.cls y y ∈ xw := xw_sel (q := (y, n)) (by have h1 := List.mem_of_getElem? h; unfold lw_privs; simp only [List.mem_append]; simp [h1]) g
theorem xw_t4 {w : Cond} (i : Nat) (h : tables_1_4[i]? = some w) (g : goodWord w = true) : w ∈ xw := xw_mem (by have h1 := List.mem_of_getElem? h; unfold tables_1; simp only [List.mem_append]; simp [h1]) g
theorem xw_p4 {y : MethodName} (i n : Nat) (h : lw_privs_4[i]? = some (y, n)) (g : goodWord (Cond.selects y.cls y y) = true) : Cond.selects y.cls y y ∈ xw := xw_sel (q := (y, n)) (by have h1 := List.mem_of_getElem? h; unfold lw_privs; simp only [List.mem_append]; simp [h1]) g
theorem xw_t5 {w : Cond} (i : Nat) (h : tables_1_5[i]? = some w) (g : goodWord w = true) : w ∈ xw := xw_mem (by have h1 := List.mem_of_getElem? h; unfold tables_1; simp only [List.mem_append]; simp [h1]) g
theorem xw_p5 {y : MethodName} (i n : Nat) (h : lw_privs_5[i]? = some (y, n)) (g : goodWord (Cond.selects y.cls y y) = true) : Cond.selects y.cls y y ∈ xw := xw_sel (q := (y, n)) (by have h1 := List.mem_of_getElem? h; unfold lw_privs; simp only [List.mem_append]; simp [h1]) g
theorem xw_t6 {w : Cond} (i : Nat) (h : tables_1_6[i]? = some w) (g : goodWord w = true) : w ∈ xw := xw_mem (by have h1 := List.mem_of_getElem? h; unfold tables_1; simp only [List.mem_append]; simp [h1]) g
theorem xw_p6 {y : MethodName} (i n : Nat) (h : lw_privs_6[i]? = some (y, n)) (g : goodWord (Cond.selects y.cls y y) = true) : Cond.selects y.cls y y ∈ xw := xw_sel (q := (y, n)) (by have h1 := List.mem_of_getElem? h; unfold lw_privs; simp only [List.mem_append]; simp [h1]) g
theorem xw_t7 {w : Cond} (i : Nat) (h : tables_1_7[i]? = some w) (g : goodWord w = true) : w ∈ xw := xw_mem (by have h1 := List.mem_of_getElem? h; unfold tables_1; simp only [List.mem_append]; simp [h1]) g
theorem xw_p7 {y : MethodName} (i n : Nat) (h : lw_privs_7[i]? = some (y, n)) (g : goodWord (Cond.selects y.cls y y) = true) : Cond.selects y.cls y y ∈ xw := xw_sel (q := (y, n)) (by have h1 := List.mem_of_getElem? h; unfold lw_privs; simp only [List.mem_append]; simp [h1]) g
theorem xw_t8 {w : Cond} (i : Nat) (h : tables_1_8[i]? = some w) (g : goodWord w = true) : w ∈ xw := xw_mem (by have h1 := List.mem_of_getElem? h; unfold tables_1; simp only [List.mem_append]; simp [h1]) g
theorem xw_p8 {y : MethodName} (i n : Nat) (h : lw_privs_8[i]? = some (y, n)) (g : goodWord (Cond.selects y.cls y y) = true) : Cond.selects y.cls y y ∈ xw := xw_sel (q := (y, n)) (by have h1 := List.mem_of_getElem? h; unfold lw_privs; simp only [List.mem_append]; simp [h1]) g
abbrev XG : Type := va_G × (Nat → ClassId)
/-- the fields of a text that the JDK made -/
def TXs : u_T := fun k => match k with
  | 0 => ("java/lang/String", "value", "[B", true)
  | _ => ("java/lang/String", "coder", "B", true)
/-- a field of class number d, place x: its class, name, descriptor; final -/
def xcl : List vw_C := vwCl ++ [("java/lang/String", TXs, 2)]
/-- what the tables know of the classes -/
def XKn (G : XG) (s : State) : Prop := va_K G.1 vwCl [(G.2 0, .int), (G.2 1, .byte), (G.2 2, .boolean)] s ∧
  (∀ d q, xcl[d]? = some q → ∀ k, k < q.2.2 → ∃ cf kf fi f, s.fieldFound? (q.2.1 k).1 (q.2.1 k).2.1 (q.2.1 k).2.2.1 = some (cf, kf, fi, f) ∧ f.slot = G.1.2 d k ∧ f.isStatic = false) ∧
  ∀ d q, xcl[d]? = some q → s.vm.findClass q.1 = some (G.1.1 d)
def xat (G : XG) (z : Nat) (s : State) (H : Heap) (a : Nat) (e : XE) : Prop := match e with
  | .inl (t, n, f) => n < 2 ^ 31 ∧ t < 3 ∧ z ≤ a ∧ H[a]? = some (arrV (G.2 t) n (fun j => .int (f j)))
  | .inr (.inl (c, n, f)) => n < 2 ^ 31 ∧ z ≤ a ∧ ∃ q cA, vwCl[c]? = some q ∧ ArrOfT s cA (.object q.1) ∧ va_RA s cA (.object q.1) ∧ H[a]? = some (arrV cA n (fun j => va_rf (f j)))
  | .inr (.inr (d, F)) => z ≤ a ∧ ∃ q, vwCl[d]? = some q ∧ t_OB a (G.1.1 d) q.2.2 (G.1.2 d) H F
def xroA (z : Nat) (s : State) (H : Heap) (ty : FieldType) (g : Nat → Option (Nat × (Nat → Int32))) : Prop := ∀ a n f, g a = some (n, f) → a < z ∧ n < 2 ^ 31 ∧ ∃ cell, H[a]? = some cell ∧ s.isArrayOf cell ty ∧ cell.vm ≠ .unknown ∧ n ≤ cell.slots.size ∧ cell.slots.size.toInt32 = Int32.ofNat n ∧ ∀ j, j < n → cell.slots[j]? = some (.int (f j))
def xroS (G : XG) (z : Nat) (s : State) (H : Heap) (g : Nat → Option (Nat → Value)) : Prop := ∀ a F, g a = some F → a < z ∧ ∃ cell, H[a]? = some cell ∧ cell.vm.isStatics = false ∧ cell.vm ≠ .unknown ∧ s.vm.findClass "java/lang/String" = some cell.cls ∧ cell.slots[G.1.2 10 0]? = some (F 0) ∧ cell.slots[G.1.2 10 1]? = some (F 1)
def xro (G : XG) (z : Nat) (s : State) (H : Heap) (g : XSt) : Prop := xroA z s H .int g.2.1 ∧ xroA z s H .byte g.2.2.1 ∧ xroS G z s H g.2.2.2
theorem xroA.moved {z : Nat} {u U : State} {H : Heap} {ty : FieldType} {g : Nat → Option (Nat × (Nat → Int32))} (hvm : u.vm.Alike U.vm) (h : xroA z u H ty g) : xroA z U H ty g := fun a n f e => by
  obtain ⟨h1, h2, cell, h3, h4, h5⟩ := h a n f e
  exact ⟨h1, h2, cell, h3, State.isArrayOf_alike hvm h4, h5⟩
theorem xroA.kept {z : Nat} {s : State} {H H1 : Heap} {ty : FieldType} {g : Nat → Option (Nat × (Nat → Int32))} (h : xroA z s H ty g) (hq : ∀ q, q < z → H1[q]? = H[q]?) : xroA z s H1 ty g := fun a n f e => by
  obtain ⟨h1, h2, cell, h3, h4⟩ := h a n f e
  exact ⟨h1, h2, cell, (hq a h1).trans h3, h4⟩
theorem xro.moved {G : XG} {z : Nat} {u U : State} {H : Heap} {g : XSt} (hvm : u.vm.Alike U.vm) (h : xro G z u H g) : xro G z U H g := ⟨h.1.moved hvm, h.2.1.moved hvm, fun a F e => by
  obtain ⟨h1, cell, h2, h3, h4, h5, h6⟩ := h.2.2 a F e
  exact ⟨h1, cell, h2, h3, h4, (by rw [← h5]; first | (rw [hvm.findClass]; done) | (rw [← hvm.findClass]; done) | exact hvm.findClass), h6⟩⟩
theorem xro.kept {G : XG} {z : Nat} {s : State} {H H1 : Heap} {g : XSt} (h : xro G z s H g) (hq : ∀ q, q < z → H1[q]? = H[q]?) : xro G z s H1 g := ⟨h.1.kept hq, h.2.1.kept hq, fun a F e => by
  obtain ⟨h1, cell, h2, h3⟩ := h.2.2 a F e
  exact ⟨h1, cell, (hq a h1).trans h2, h3⟩⟩
def xsts : List (String × String × String) := [("LineDiagram", "ACROSS", "[I"), ("LineDiagram", "DOWN", "[I"), ("LineDiagram", "WAY_BY_SIGNS", "[I"), ("java/lang/String", "COMPACT_STRINGS", "Z"), ("jdk/internal/util/Preconditions", "SIOOBE_FORMATTER", "Ljava/util/function/BiFunction;")]
def XRel (G : XG) (z : Nat) (h : XH) (s : State) (H : Heap) : Prop := z ≤ H.size ∧ (∀ a e, h.2 a = some e → xat G z s H a e) ∧ (∀ k q, xsts[k]? = some q → va_Z q.1 q.2.1 q.2.2 (h.1.1 k) (fun b => z ≤ b) s H) ∧ xro G z s H h.1
theorem XKn.moved {G : XG} {u U : State} (hvm : u.vm.Alike U.vm) (h : XKn G u) : XKn G U := by
  refine ⟨va_K.moved hvm h.1, fun d q hq k hk => ?_, fun d q hq => ?_⟩
  · obtain ⟨cf, kf, fi, f, h1, h2, h3⟩ := h.2.1 d q hq k hk
    obtain ⟨kf', hi', -⟩ := State.fieldFound?_setVm (s := u) hvm h1
    exact ⟨cf, kf', fi, f, by simpa only [State.fieldFound?, State.vm_setVm] using hi', h2, h3⟩
  · rw [← h.2.2 d q hq]
    first | (rw [hvm.findClass]; done) | (rw [← hvm.findClass]; done) | exact hvm.findClass
theorem xat.moved {G : XG} {z : Nat} {u U : State} {H : Heap} {a : Nat} {e : XE} (hvm : u.vm.Alike U.vm) (h : xat G z u H a e) : xat G z U H a e := by
  rcases e with ⟨t, n, f⟩ | ⟨c, n, f⟩ | ⟨d, F⟩
  · exact h
  · obtain ⟨h0, hz, q, cA, hq, h1, h3, h2⟩ := h
    exact ⟨h0, hz, q, cA, hq, arrOfT_moved hvm h1, h3.moved hvm, h2⟩
  · exact h
theorem XRel.moved {G : XG} {z : Nat} {h : XH} {u U : State} {H : Heap} (hvm : u.vm.Alike U.vm) (k : XRel G z h u H) : XRel G z h U H :=
  ⟨k.1, fun a e he => (k.2.1 a e he).moved hvm, fun i q hq => (k.2.2.1 i q hq).moved hvm, k.2.2.2.moved hvm⟩
theorem xat.kept {G : XG} {z : Nat} {s : State} {H H1 : Heap} {a : Nat} {e : XE} (h : xat G z s H a e) (hq : H1[a]? = H[a]?) : xat G z s H1 a e := by
  rcases e with ⟨t, n, f⟩ | ⟨c, n, f⟩ | ⟨d, F⟩
  · simp only [xat] at h ⊢
    rw [hq]; exact h
  · obtain ⟨h0, hz, q, cA, hq2, h1, h3, h2⟩ := h
    exact ⟨h0, hz, q, cA, hq2, h1, h3, hq.trans h2⟩
  · obtain ⟨h1, q, h2, h3⟩ := h
    exact ⟨h1, q, h2, h3.kept hq⟩
theorem XRel.set {G : XG} {z : Nat} {h : XH} {s : State} {H H1 : Heap} {a : Nat} {e : XE} (k : XRel G z h s H) (hz : z ≤ a) (he : xat G z s H1 a e) (hs : H1.size = H.size) (oq : ∀ q, q ≠ a → H1[q]? = H[q]?) : XRel G z (xhs h a e) s H1 := by
  refine ⟨by rw [hs]; exact k.1, fun b x hb => ?_, fun i q hq => ?_, k.2.2.2.kept fun q hq => oq q (by omega)⟩
  · simp only [xhs] at hb
    split at hb
    · rename_i e1
      subst e1
      cases hb
      exact he
    · rename_i e1
      exact (k.2.1 b x hb).kept (oq b e1)
  · obtain ⟨cf, kf, fi, f, b, cell, h1, h2, h3, h4, h5, h6, h7, h8⟩ := k.2.2.1 i q hq
    refine ⟨cf, kf, fi, f, b, cell, h1, h2, h3, h4, ?_, h6, h7, h8⟩
    rw [oq b (fun e1 => h8 (by rw [e1]; exact hz))]
    exact h5
def xstrs : List (String × Nat × String) := [("LineDiagram$Plan", 59, "board"), ("LineDiagram$Plan", 69, " turn"), ("LineDiagram$Plan", 78, "line "), ("LineDiagram$Plan", 83, " size"), ("LineDiagram$Plan", 88, " stops"), ("LineDiagram$Plan", 93, " at")]
/-- the words of members of nest mates -/
def xnw : List Cond := [(Jvm.Cond.methodLinkNest "LineDiagram" (9 : Nat) ({ cls := "LineDiagram$Text", name := "<init>", desc := "()V" } : Jvm.MethodName) "LineDiagram"),
  (Jvm.Cond.methodLinkNest "LineDiagram" (21 : Nat) ({ cls := "LineDiagram$Parser", name := "<init>", desc := "()V" } : Jvm.MethodName) "LineDiagram"),
  (Jvm.Cond.methodLinkNest "LineDiagram$Plan" (19 : Nat) ({ cls := "LineDiagram$Labels", name := "<init>", desc := "()V" } : Jvm.MethodName) "LineDiagram"),
  (Jvm.Cond.methodLinkNest "LineDiagram$Plan" (24 : Nat) ({ cls := "LineDiagram$Line", name := "<init>", desc := "()V" } : Jvm.MethodName) "LineDiagram"),
  (Jvm.Cond.methodLinkNest "LineDiagram" (53 : Nat) ({ cls := "LineDiagram$Board", name := "<init>", desc := "()V" } : Jvm.MethodName) "LineDiagram"),
  (Jvm.Cond.methodLinkNest "LineDiagram" (60 : Nat) ({ cls := "LineDiagram$Travel", name := "<init>", desc := "()V" } : Jvm.MethodName) "LineDiagram"),
  (Jvm.Cond.methodLinkNest "LineDiagram" (67 : Nat) ({ cls := "LineDiagram$Line", name := "<init>", desc := "()V" } : Jvm.MethodName) "LineDiagram"),
  (Jvm.Cond.methodLinkNest "LineDiagram$Parser" (128 : Nat) ({ cls := "LineDiagram", name := "shiftOf", desc := "(I)I" } : Jvm.MethodName) "LineDiagram"),
  (Jvm.Cond.fieldLinkNest "LineDiagram$Line" (43 : Nat) "LineDiagram" "WAY_BY_SIGNS" "[I" "LineDiagram"),
  (Jvm.Cond.methodLinkNest "LineDiagram$Board" (75 : Nat) ({ cls := "LineDiagram", name := "cellAt", desc := "(II)I" } : Jvm.MethodName) "LineDiagram"),
  (Jvm.Cond.fieldLinkNest "LineDiagram$Board" (103 : Nat) "LineDiagram" "ACROSS" "[I" "LineDiagram"),
  (Jvm.Cond.fieldLinkNest "LineDiagram$Board" (106 : Nat) "LineDiagram" "DOWN" "[I" "LineDiagram"),
  (Jvm.Cond.methodLinkNest "LineDiagram$Board" (147 : Nat) ({ cls := "LineDiagram", name := "columnOf", desc := "(I)I" } : Jvm.MethodName) "LineDiagram"),
  (Jvm.Cond.methodLinkNest "LineDiagram$Board" (153 : Nat) ({ cls := "LineDiagram", name := "rowOf", desc := "(I)I" } : Jvm.MethodName) "LineDiagram"),
  (Jvm.Cond.methodLinkNest "LineDiagram$Board" (138 : Nat) ({ cls := "LineDiagram", name := "codeOf", desc := "(I)I" } : Jvm.MethodName) "LineDiagram"),
  (Jvm.Cond.methodLinkNest "LineDiagram$Text" (32 : Nat) ({ cls := "LineDiagram", name := "letterOf", desc := "(II)I" } : Jvm.MethodName) "LineDiagram")]
theorem xnw_warm {s U : State} (hW : s.WarmedH U.vm) (h : ∀ w ∈ xnw, va_Nw w s) : ∀ w ∈ xnw, va_Nw w U := by
  intro w hw
  have h1 := h w hw
  simp only [xnw, List.mem_cons, List.not_mem_nil, or_false] at hw
  rcases hw with rfl | rfl | rfl | rfl | rfl | rfl | rfl | rfl | rfl | rfl | rfl | rfl | rfl | rfl | rfl | rfl
  all_goals first | exact va_Nw.warmM hW h1 | exact va_Nw.warmF hW h1
def XStr (g : Nat → Value) (s : State) : Prop := (∀ k q, xstrs[k]? = some q → ∃ a, g (10 + k) = .ref a ∧ vk_R q.1 q.2.1 q.2.2 a s) ∧ (∀ w ∈ xnw, va_Nw w s) ∧ va_AO "LineDiagram$Line" s ∧ va_AO "LineDiagram$Plan" s
theorem XStr.warm {g : Nat → Value} {s U : State} (hW : s.WarmedH U.vm) (h : XStr g s) : XStr g U := ⟨fun k q hq => by
  obtain ⟨a, h1, h2⟩ := h.1 k q hq
  exact ⟨a, h1, h2.warm hW⟩, xnw_warm hW h.2.1, h.2.2.1.moved hW.alike, h.2.2.2.moved hW.alike⟩
theorem XStr.same {g : Nat → Value} {s U : State} (hv : U.vm = s.vm) (h : XStr g s) : XStr g U := ⟨fun k q hq => by
  obtain ⟨a, h1, h2⟩ := h.1 k q hq
  exact ⟨a, h1, vk_R.same hv h2⟩, fun w hw => by
  have h1 := h.2.1 w hw
  simp only [xnw, List.mem_cons, List.not_mem_nil, or_false] at hw
  rcases hw with rfl | rfl | rfl | rfl | rfl | rfl | rfl | rfl | rfl | rfl | rfl | rfl | rfl | rfl | rfl | rfl
  all_goals exact va_Nw.same rfl hv.symm h1, h.2.2.1.moved (by rw [hv]; exact Vm.Alike.refl _), h.2.2.2.moved (by rw [hv]; exact Vm.Alike.refl _)⟩
/-- the walk's own facts: heap, its size, what lies below z, what was written -/
def XI (G : XG) (z N0 : Nat) (s : State) (h : XH) (H : Heap) (locs : List Loc) : Prop := XRel G z h s H ∧ H.size = N0 ∧ (∀ q : Nat, q < z → H[q]? = s.heap[q]?) ∧ (∀ q ∈ locs, z ≤ q.base) ∧ XStr h.1.1 s
theorem XI.set {G : XG} {z N0 : Nat} {h : XH} {s : State} {H H1 : Heap} {locs : List Loc} {a i : Nat} {e : XE} (k : XI G z N0 s h H locs) (hz : z ≤ a) (he : xat G z s H1 a e) (hs : H1.size = H.size) (oq : ∀ q, q ≠ a → H1[q]? = H[q]?) : XI G z N0 s (xhs h a e) H1 (locs ++ [⟨a, i⟩]) := by
  refine ⟨k.1.set hz he hs oq, hs.trans k.2.1, fun q hq => (oq q (by omega)).trans (k.2.2.1 q hq), fun q hq => ?_, k.2.2.2.2⟩
  rcases List.mem_append.mp hq with h1 | h1
  · exact k.2.2.2.1 q h1
  · rw [List.mem_singleton.mp h1]; exact hz
section XS1
variable (p : Program) (l : Launch) (e : Env) (R : Room) (s : State) (m : MethodId) (args : Array Value) (below : List Frame) (meth : Method) (c : Code) (cells slots : Nat) (Q : Option Value → XH → State → Prop) (G : XG) (z N0 nL : Nat)
/-- from here the machine comes to the end that the abstract one tells -/
def XSim (pc : Nat) (lv : XLV) (st : List Value) (h : XH) (r : XR) : Prop := ∀ rv h', r = some (rv, h') → ∀ (H : Heap) (locs : List Loc) (ls : Array Slot), XI G z N0 s h H locs → lv_has ls nL lv →
  W p l e R s m args below meth c H locs cells slots (Q rv h') (F0 m pc ls st)
variable {p l e R s m args below meth c cells slots Q G z N0 nL}
theorem XSim.none {pc : Nat} {lv : XLV} {st : List Value} {h : XH} : XSim p l e R s m args below meth c cells slots Q G z N0 nL pc lv st h none := fun _ _ h => by cases h
theorem xlk_mem {lv : XLV} {i : Nat} {v : Value} (h : xlk lv i = some v) : (i, v) ∈ lv := by
  induction lv with
  | nil => cases h
  | cons q r ih =>
    simp only [xlk] at h
    split at h
    · rename_i e1
      cases h
      subst e1
      exact List.mem_cons_self
    · exact List.mem_cons_of_mem _ (ih h)
theorem xlk_at {lv : XLV} {ls : Array Slot} {i : Nat} {v : Value} (hl : lv_has ls nL lv) (h : xlk lv i = some v) : ls[i]? = some (.val v) := hl.2.2 (i, v) (xlk_mem h)
theorem xlk_lt {lv : XLV} {ls : Array Slot} {i : Nat} {v : Value} (hl : lv_has ls nL lv) (h : xlk lv i = some v) : i < nL := by
  have h1 := xlk_at hl h
  rw [← hl.1]
  exact (Array.getElem?_eq_some_iff.mp h1).1
theorem xlk_place {lv : XLV} {i : Nat} {v : Value} (h : xlk lv i = some v) : ∃ k : Nat, lv[k]? = some (i, v) := List.getElem?_of_mem (xlk_mem h)
theorem xpick_has {lv : XLV} {ls : Array Slot} {live : List Nat} {vs : List Value} (hl : lv_has ls nL lv) (h : xpick lv live = some vs) : lv_has ls nL (live.zip vs) := by
  refine ⟨hl.1, hl.2.1, ?_⟩
  induction live generalizing vs with
  | nil => intro q hq; cases h; cases hq
  | cons i r ih =>
    simp only [xpick] at h
    split at h
    · rename_i v hv
      split at h
      · rename_i ws hw
        cases h
        intro q hq
        rcases List.mem_cons.mp hq with rfl | hq
        · exact xlk_at hl hv
        · exact ih hw q hq
      · cases h
    · cases h
/-- a row of the table agrees with the code -/
def xok (nL : Nat) (pc : Nat) (w : XRow) : Bool := match w.1 with
  | .iload i => w.2.1 == pc + 2 && w.2.2.1 == i
  | .aload i => w.2.1 == pc + 2 && w.2.2.1 == i
  | .lload i => w.2.1 == pc + 2 && w.2.2.1 == i
  | .dload i => w.2.1 == pc + 2 && w.2.2.1 == i
  | .iload_n i => w.2.1 == pc + 1 && w.2.2.1 == i.val
  | .aload_n i => w.2.1 == pc + 1 && w.2.2.1 == i.val
  | .lload_n i => w.2.1 == pc + 1 && w.2.2.1 == i.val
  | .dload_n i => w.2.1 == pc + 1 && w.2.2.1 == i.val
  | .istore i => w.2.1 == pc + 2 && w.2.2.1 == i && decide (i < nL)
  | .astore i => w.2.1 == pc + 2 && w.2.2.1 == i && decide (i < nL)
  | .dstore i => w.2.1 == pc + 2 && w.2.2.1 == i && decide (i + 1 < nL)
  | .istore_n i => w.2.1 == pc + 1 && w.2.2.1 == i.val && decide (i.val < nL)
  | .astore_n i => w.2.1 == pc + 1 && w.2.2.1 == i.val && decide (i.val < nL)
  | .dstore_n i => w.2.1 == pc + 1 && w.2.2.1 == i.val && decide (i.val + 1 < nL)
  | .iinc i n => w.2.1 == pc + 3 && w.2.2.1 == i && w.2.2.2.1 == .int (Int32.ofInt n)
  | .iconst n => w.2.1 == pc + 1 && w.2.2.2.1 == .int (Int32.ofInt n)
  | .bipush n => w.2.1 == pc + 2 && w.2.2.2.1 == .int (Int8.ofInt n).toInt32
  | .sipush n => w.2.1 == pc + 3 && w.2.2.2.1 == .int (Int16.ofInt n).toInt32
  | .lconst n => w.2.1 == pc + 1 && w.2.2.2.1 == .long (Int64.ofNat n.val)
  | .dconst n => w.2.1 == pc + 1 && n == 0 && w.2.2.2.1 == .double FP.dconst0
  | .ldc i => w.2.1 == pc + 2 && w.2.2.1 == i
  | .ldc_w i => w.2.1 == pc + 3 && w.2.2.1 == i
  | .ldc2_w i => w.2.1 == pc + 3 && w.2.2.1 == i
  | .goto off => w.2.1 == pc + 3 && decide ((pc : Int) + off = (w.2.2.1 : Int))
  | .ifCond _ off => w.2.1 == pc + 3 && decide ((pc : Int) + off = (w.2.2.1 : Int))
  | .if_icmp _ off => w.2.1 == pc + 3 && decide ((pc : Int) + off = (w.2.2.1 : Int))
  | .tableswitch dflt lo hi offs => decide (pc ≤ w.2.1) && decide ((pc : Int) + dflt = (w.2.2.1 : Int)) && decide (-2147483648 ≤ lo) && decide (hi ≤ 2147483647) && decide ((offs.size : Int) = hi + 1 - lo) && (w.2.2.2.2 == (List.range offs.size).map (fun (j : Nat) => (Int32.ofInt (lo + (j : Int)), ((pc : Int) + offs.getD j 0).toNat))) && (List.range offs.size).all (fun (j : Nat) => decide (0 ≤ (pc : Int) + offs.getD j 0))
  | .lookupswitch dflt ps => decide (pc ≤ w.2.1) && decide ((pc : Int) + dflt = (w.2.2.1 : Int)) && (ps.toList.zip (ps.toList.drop 1)).all (fun (a, next) => a.1 < next.1) && (w.2.2.2.2 == ps.toList.map (fun q => (Int32.ofInt q.1, ((pc : Int) + q.2).toNat))) && ps.toList.all (fun q => decide (0 ≤ (pc : Int) + q.2) && (Int32.ofInt q.1).toInt == q.1)
  | .getfield i => w.2.1 == pc + 3 && w.2.2.1 == i
  | .putfield i => w.2.1 == pc + 3 && w.2.2.1 == i
  | .getstatic i => w.2.1 == pc + 3 && w.2.2.1 == i
  | .invokevirtual i => w.2.1 == pc + 3 && w.2.2.1 == i
  | .invokestatic i => w.2.1 == pc + 3 && w.2.2.1 == i
  | _ => w.2.1 == pc + 1
end XS1
