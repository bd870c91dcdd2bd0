section XS2
variable {p : Program} {l : Launch} {e : Env} {R : Room} {s : State} {m : MethodId} {args : Array Value} {below : List Frame} {meth : Method} {c : Code} {cells slots : Nat} {Q : Option Value → XH → State → Prop} {G : XG} {z N0 nL : Nat}
variable {cc : ByteArray} {own : String} {pc nx : Nat} {lv : XLV} {st : List Value} {h : XH} {r : XR}
theorem XSim.step {lv' : XLV} {st' : List Value} (hk : XSim p l e R s m args below meth c cells slots Q G z N0 nL nx lv' st' h r)
    (row : ∀ (Z : State → Prop) (H : Heap) (locs : List Loc) (ls : Array Slot), lv_has ls nL lv → (∀ ls', lv_has ls' nL lv' → W p l e R s m args below meth c H locs cells slots Z (F0 m nx ls' st')) → W p l e R s m args below meth c H locs cells slots Z (F0 m pc ls st)) :
    XSim p l e R s m args below meth c cells slots Q G z N0 nL pc lv st h r := fun rv h' hr H locs ls hI hl => row _ H locs ls hl fun ls' hl' => hk rv h' hr H locs ls' hI hl'
theorem XSim.same {st' : List Value} (hk : XSim p l e R s m args below meth c cells slots Q G z N0 nL nx lv st' h r)
    (row : ∀ (Z : State → Prop) (H : Heap) (locs : List Loc) (ls : Array Slot), lv_has ls nL lv → W p l e R s m args below meth c H locs cells slots Z (F0 m nx ls st') → W p l e R s m args below meth c H locs cells slots Z (F0 m pc ls st)) :
    XSim p l e R s m args below meth c cells slots Q G z N0 nL pc lv st h r := hk.step fun Z H locs ls hl k => row Z H locs ls hl (k ls hl)
/-- a step that reads the heap -/
theorem XSim.read {st' : List Value} (hk : XSim p l e R s m args below meth c cells slots Q G z N0 nL nx lv st' h r)
    (row : ∀ (Z : State → Prop) (H : Heap) (locs : List Loc) (ls : Array Slot), XI G z N0 s h H locs → W p l e R s m args below meth c H locs cells slots Z (F0 m nx ls st') → W p l e R s m args below meth c H locs cells slots Z (F0 m pc ls st)) :
    XSim p l e R s m args below meth c cells slots Q G z N0 nL pc lv st h r := fun rv h' hr H locs ls hI hl => row _ H locs ls hI (hk rv h' hr H locs ls hI hl)
/-- a step that writes one cell -/
theorem XSim.write {st' : List Value} {h1 : XH} (_ : h1.1 = h.1) (hk : XSim p l e R s m args below meth c cells slots Q G z N0 nL nx lv st' h1 r)
    (row : ∀ (Z : State → Prop) (H : Heap) (locs : List Loc) (ls : Array Slot), XI G z N0 s h H locs → (∀ H1 locs1, XI G z N0 s h1 H1 locs1 → W p l e R s m args below meth c H1 locs1 cells slots Z (F0 m nx ls st')) → W p l e R s m args below meth c H locs cells slots Z (F0 m pc ls st)) :
    XSim p l e R s m args below meth c cells slots Q G z N0 nL pc lv st h r := fun rv h' hr H locs ls hI hl => row _ H locs ls hI fun H1 locs1 hI1 => hk rv h' hr H1 locs1 ls hI1 hl
theorem XSim.writeL {st' : List Value} {h1 : XH} (_ : h1.1 = h.1) (hk : XSim p l e R s m args below meth c cells slots Q G z N0 nL nx lv st' h1 r)
    (row : ∀ (Z : State → Prop) (H : Heap) (locs : List Loc) (ls : Array Slot), XI G z N0 s h H locs → ls.size = nL → (∀ H1 locs1, XI G z N0 s h1 H1 locs1 → W p l e R s m args below meth c H1 locs1 cells slots Z (F0 m nx ls st')) → W p l e R s m args below meth c H locs cells slots Z (F0 m pc ls st)) :
    XSim p l e R s m args below meth c cells slots Q G z N0 nL pc lv st h r := fun rv h' hr H locs ls hI hl => row _ H locs ls hI hl.1 fun H1 locs1 hI1 => hk rv h' hr H1 locs1 ls hI1 hl
theorem XSim.ite {P : Prop} [Decidable P] {r1 r2 : XR} (h1 : P → XSim p l e R s m args below meth c cells slots Q G z N0 nL pc lv st h r1) (h2 : ¬ P → XSim p l e R s m args below meth c cells slots Q G z N0 nL pc lv st h r2) : XSim p l e R s m args below meth c cells slots Q G z N0 nL pc lv st h (if P then r1 else r2) := by
  by_cases hP : P
  · rw [if_pos hP]; exact h1 hP
  · rw [if_neg hP]; exact h2 hP
theorem xge {x y : Int32} (h : ¬ x < y) : y ≤ x := Int32.not_lt.mp h
theorem xnge {x y : Int32} (h : ¬ y ≤ x) : x < y := Int32.not_le.mp h
theorem xvin {i : Int32} {n : Nat} (h : 0 ≤ i ∧ i.toNatClampNeg < n) : vp_in i n := fun q => by
  rcases q with q | q
  · exact absurd h.1 (Int32.not_le.mpr q)
  · omega
section CD
variable (hx : p.tables.exec = Jvm.exec) (hb : c.code = cc) (hK : ∀ pc lv st h, XSim p l e R s m args below meth c cells slots Q G z N0 nL pc lv st h r)
theorem XSim.cond (hx : p.tables.exec = Jvm.exec) (hb : c.code = cc) {cd : ClassFile.Cond} {off : Int} {tg : Nat} {x : Int32} {r1 r2 : XR} (hd : decode cc pc = .ok (.ifCond cd off, 3)) (ht : (pc : Int) + off = (tg : Int))
    (h1 : XSim p l e R s m args below meth c cells slots Q G z N0 nL tg lv st h r1) (h2 : XSim p l e R s m args below meth c cells slots Q G z N0 nL (pc + 3) lv st h r2) : XSim p l e R s m args below meth c cells slots Q G z N0 nL pc lv (.int x :: st) h (xcond cd x r1 r2) := by
  cases cd <;> simp only [xcond]
  · exact XSim.ite (fun q => h1.same fun Z H locs ls hl k => lv_if_eq hx hb hd ht (fun _ => k) (fun n => absurd q n)) (fun q => h2.same fun Z H locs ls hl k => lv_if_eq hx hb hd ht (fun n => absurd n q) (fun _ => k))
  · exact XSim.ite (fun q => h2.same fun Z H locs ls hl k => lv_if_ne hx hb hd ht (fun n => absurd q n) (fun _ => k)) (fun q => h1.same fun Z H locs ls hl k => lv_if_ne hx hb hd ht (fun _ => k) (fun n => absurd n q))
  · exact XSim.ite (fun q => h1.same fun Z H locs ls hl k => lv_if_lt hx hb hd ht (fun _ => k) (fun n => absurd q n)) (fun q => h2.same fun Z H locs ls hl k => lv_if_lt hx hb hd ht (fun n => absurd n q) (fun _ => k))
  · exact XSim.ite (fun q => h2.same fun Z H locs ls hl k => lv_if_ge hx hb hd ht (fun n => absurd q (Int32.not_lt.mpr n)) (fun _ => k)) (fun q => h1.same fun Z H locs ls hl k => lv_if_ge hx hb hd ht (fun _ => k) (fun n => absurd (xge q) n))
  · exact XSim.ite (fun q => h1.same fun Z H locs ls hl k => lv_if_gt hx hb hd ht (fun _ => k) (fun n => absurd q n)) (fun q => h2.same fun Z H locs ls hl k => lv_if_gt hx hb hd ht (fun n => absurd n q) (fun _ => k))
  · exact XSim.ite (fun q => h2.same fun Z H locs ls hl k => lv_if_le hx hb hd ht (fun n => absurd q (Int32.not_lt.mpr n)) (fun _ => k)) (fun q => h1.same fun Z H locs ls hl k => lv_if_le hx hb hd ht (fun _ => k) (fun n => absurd (xge q) n))
theorem XSim.cmp (hx : p.tables.exec = Jvm.exec) (hb : c.code = cc) {cd : ClassFile.Cond} {off : Int} {tg : Nat} {x y : Int32} {r1 r2 : XR} (hd : decode cc pc = .ok (.if_icmp cd off, 3)) (ht : (pc : Int) + off = (tg : Int))
    (h1 : XSim p l e R s m args below meth c cells slots Q G z N0 nL tg lv st h r1) (h2 : XSim p l e R s m args below meth c cells slots Q G z N0 nL (pc + 3) lv st h r2) : XSim p l e R s m args below meth c cells slots Q G z N0 nL pc lv (.int y :: .int x :: st) h (xcmp cd x y r1 r2) := by
  cases cd <;> simp only [xcmp]
  · exact XSim.ite (fun q => h1.same fun Z H locs ls hl k => lv_icmp_eq hx hb hd ht (fun _ => k) (fun n => absurd q n)) (fun q => h2.same fun Z H locs ls hl k => lv_icmp_eq hx hb hd ht (fun n => absurd n q) (fun _ => k))
  · exact XSim.ite (fun q => h2.same fun Z H locs ls hl k => lv_icmp_ne hx hb hd ht (fun n => absurd q n) (fun _ => k)) (fun q => h1.same fun Z H locs ls hl k => lv_icmp_ne hx hb hd ht (fun _ => k) (fun n => absurd n q))
  · exact XSim.ite (fun q => h1.same fun Z H locs ls hl k => lv_icmp_lt hx hb hd ht (fun _ => k) (fun n => absurd q n)) (fun q => h2.same fun Z H locs ls hl k => lv_icmp_lt hx hb hd ht (fun n => absurd n q) (fun _ => k))
  · exact XSim.ite (fun q => h2.same fun Z H locs ls hl k => lv_icmp_ge hx hb hd ht (fun n => absurd q (Int32.not_lt.mpr n)) (fun _ => k)) (fun q => h1.same fun Z H locs ls hl k => lv_icmp_ge hx hb hd ht (fun _ => k) (fun n => absurd (xge q) n))
  · exact XSim.ite (fun q => h1.same fun Z H locs ls hl k => lv_icmp_gt hx hb hd ht (fun _ => k) (fun n => absurd q n)) (fun q => h2.same fun Z H locs ls hl k => lv_icmp_gt hx hb hd ht (fun n => absurd n q) (fun _ => k))
  · exact XSim.ite (fun q => h2.same fun Z H locs ls hl k => lv_icmp_le hx hb hd ht (fun n => absurd q (Int32.not_lt.mpr n)) (fun _ => k)) (fun q => h1.same fun Z H locs ls hl k => lv_icmp_le hx hb hd ht (fun _ => k) (fun n => absurd (xge q) n))
end CD
theorem XI.num {H : Heap} {locs : List Loc} {a t n : Nat} {f : Nat → Int32} (hI : XI G z N0 s h H locs) (ha : h.2 a = some (.inl (t, n, f))) : n < 2 ^ 31 ∧ t < 3 ∧ z ≤ a ∧ H[a]? = some (arrV (G.2 t) n (fun j => .int (f j))) := hI.1.2.1 a _ ha
theorem XI.obj {H : Heap} {locs : List Loc} {a d : Nat} {F : Nat → Value} (hI : XI G z N0 s h H locs) (ha : h.2 a = some (.inr (.inr (d, F)))) : z ≤ a ∧ ∃ q, vwCl[d]? = some q ∧ t_OB a (G.1.1 d) q.2.2 (G.1.2 d) H F := hI.1.2.1 a _ ha
theorem xcl_of {d : Nat} {q : vw_C} (hq : vwCl[d]? = some q) : xcl[d]? = some q := by
  rw [xcl, List.getElem?_append_left (List.getElem?_eq_some_iff.mp hq).1]
  exact hq
/-- an object of any kind, as reads and calls see it -/
def XOb (G : XG) (s : State) (H : Heap) (a d : Nat) (F : Nat → Value) : Prop := ∃ q cell, xcl[d]? = some q ∧ H[a]? = some cell ∧ cell.vm ≠ .unknown ∧ cell.vm.isStatics = false ∧ s.vm.findClass q.1 = some cell.cls ∧ ∀ k, k < q.2.2 → cell.slots[G.1.2 d k]? = some (F k)
theorem XI.objc (hK : XKn G s) {H : Heap} {locs : List Loc} {a d : Nat} {F : Nat → Value} (hI : XI G z N0 s h H locs) (ha : h.2 a = some (.inr (.inr (d, F)))) : XOb G s H a d F := by
  obtain ⟨hz, q, hq, cell, c1, c2, c3, c4⟩ := hI.obj ha
  exact ⟨q, cell, xcl_of hq, c1, (by rw [c3]; exact fun h => (by cases h)), (by rw [c3]; rfl), (by rw [c2]; exact hK.2.2 d q (xcl_of hq)), c4⟩
theorem XI.text {H : Heap} {locs : List Loc} {a : Nat} {F : Nat → Value} (hI : XI G z N0 s h H locs) (ha : h.1.2.2.2 a = some F) : XOb G s H a 10 F := by
  obtain ⟨-, cell, c1, c2, c3, c4, c5, c6⟩ := hI.1.2.2.2.2.2 a F ha
  refine ⟨("java/lang/String", TXs, 2), cell, rfl, c1, c3, c2, c4, fun k hk => ?_⟩
  rcases (show k = 0 ∨ k = 1 by have : k < 2 := hk; omega) with rfl | rfl
  · exact c5
  · exact c6
theorem xupd (f : Nat → Int32) (i : Nat) (v : Int32) : updV (fun j => Value.int (f j)) i (.int v) = fun j => .int (upd f i v j) := by
  funext j
  simp only [updV, upd]
  split <;> rfl
theorem xSingle {a : Nat} {cA : ClassId} {n : Nat} {f : Nat → Int32} {H : Heap} (h1 : H[a]? = some (arrV cA n (fun j => .int (f j)))) : va_P G.1 vwCl [(a, .inl (cA, n, .inl f))] H := by
  intro k q hk
  match k, hk with
  | 0, hk => cases hk; exact h1
theorem xApart {a : Nat} {x : va_E} (hz : z ≤ a) : va_D (fun b => z ≤ b) [(a, x)] := by
  refine ⟨fun i j p q hi hj _ => ?_, fun k q hk => ?_⟩
  · match i, j, hi, hj with
    | 0, 0, _, _ => rfl
  · match k, hk with
    | 0, hk => cases hk; exact hz
theorem xInS {H : Heap} {locs : List Loc} (hI : XI G z N0 s h H locs) : va_S (fun b => z ≤ b) H H locs := ⟨Nat.le_refl _, fun _ _ _ => rfl, hI.2.2.2.1⟩
theorem xTy (hK : XKn G s) : va_K G.1 vwCl [(G.2 0, .int), (G.2 1, .byte), (G.2 2, .boolean)] s := hK.1
theorem XSim_ob {α : Type} {o : Option α} {k : α → XR} (hk : ∀ v, o = some v → XSim p l e R s m args below meth c cells slots Q G z N0 nL pc lv st h (k v)) : XSim p l e R s m args below meth c cells slots Q G z N0 nL pc lv st h (ob o k) := by
  unfold ob
  split
  · rename_i v
    exact hk v rfl
  · exact XSim.none
theorem vdI_some {a : Nat} {i v : Int32} (hv : vdI h a i = some v) : ∃ n f, (h.2 a = some (.inl (0, n, f)) ∨ h.1.2.1 a = some (n, f)) ∧ (0 ≤ i ∧ i.toNatClampNeg < n) ∧ v = f i.toNatClampNeg := by
  unfold vdI at hv
  split at hv
  · rename_i t n f ha
    split at hv
    · rename_i q
      obtain ⟨rfl, q⟩ := q
      exact ⟨n, f, Or.inl ha, q, (Option.some.inj hv).symm⟩
    · cases hv
  · split at hv
    · rename_i n f ha
      split at hv
      · rename_i q
        exact ⟨n, f, Or.inr ha, q, (Option.some.inj hv).symm⟩
      · cases hv
    · cases hv
  · cases hv
theorem vdB_some {a : Nat} {i v : Int32} (hv : vdB h a i = some v) : ∃ n f, (h.2 a = some (.inl (1, n, f)) ∨ h.2 a = some (.inl (2, n, f)) ∨ h.1.2.2.1 a = some (n, f)) ∧ (0 ≤ i ∧ i.toNatClampNeg < n) ∧ v = f i.toNatClampNeg := by
  unfold vdB at hv
  split at hv
  · rename_i t n f ha
    split at hv
    · rename_i q
      obtain ⟨rfl | rfl, q⟩ := q
      · exact ⟨n, f, Or.inl ha, q, (Option.some.inj hv).symm⟩
      · exact ⟨n, f, Or.inr (Or.inl ha), q, (Option.some.inj hv).symm⟩
    · cases hv
  · split at hv
    · rename_i n f ha
      split at hv
      · rename_i q
        exact ⟨n, f, Or.inr (Or.inr ha), q, (Option.some.inj hv).symm⟩
      · cases hv
    · cases hv
  · cases hv
theorem XSim_rdI (hx : p.tables.exec = Jvm.exec) (hb : c.code = cc) (hK : XKn G s) {a : Nat} {i : Int32} {k : Int32 → XR} (hd : decode cc pc = .ok (.iaload, 1)) (hk : ∀ v, XSim p l e R s m args below meth c cells slots Q G z N0 nL (pc + 1) lv (.int v :: st) h (k v)) :
    XSim p l e R s m args below meth c cells slots Q G z N0 nL pc lv (.int i :: .ref a :: st) h (rdI h a i k) := by
  refine XSim_ob fun v hv => (hk v).read fun Z H locs ls hI kk => ?_
  obtain ⟨n, f, ha, hi, rfl⟩ := vdI_some hv
  rcases ha with ha | ha
  · exact va_iald (D := G.1) (cl := vwCl) hx hb (xTy hK) (xSingle (hI.num ha).2.2.2) 0 0 rfl rfl (xvin hi) hd kk
  · obtain ⟨-, -, cell, h1, h2, h3, h4, h4', h5⟩ := hI.1.2.2.2.1 a n f ha
    exact W.iald hx hb h1 h2 h3 (fun q => xvin hi (q.imp id fun q => by omega)) (h5 _ hi.2) rfl rfl hd kk
theorem XSim_rdB (hx : p.tables.exec = Jvm.exec) (hb : c.code = cc) (hK : XKn G s) {a : Nat} {i : Int32} {k : Int32 → XR} (hd : decode cc pc = .ok (.baload, 1)) (hk : ∀ v, XSim p l e R s m args below meth c cells slots Q G z N0 nL (pc + 1) lv (.int v :: st) h (k v)) :
    XSim p l e R s m args below meth c cells slots Q G z N0 nL pc lv (.int i :: .ref a :: st) h (rdB h a i k) := by
  refine XSim_ob fun v hv => (hk v).read fun Z H locs ls hI kk => ?_
  obtain ⟨n, f, ha, hi, rfl⟩ := vdB_some hv
  rcases ha with ha | ha | ha
  · exact va_bald (D := G.1) (cl := vwCl) hx hb (xTy hK) (xSingle (hI.num ha).2.2.2) 0 1 rfl rfl (xvin hi) hd kk
  · exact va_zald (D := G.1) (cl := vwCl) hx hb (xTy hK) (xSingle (hI.num ha).2.2.2) 0 2 rfl rfl (xvin hi) hd kk
  · obtain ⟨-, -, cell, h1, h2, h3, h4, h4', h5⟩ := hI.1.2.2.2.2.1 a n f ha
    exact W.bald hx hb h1 h2 h3 (fun q => xvin hi (q.imp id fun q => by omega)) (h5 _ hi.2) rfl rfl hd kk
theorem XSim_wrI (hx : p.tables.exec = Jvm.exec) (hb : c.code = cc) (hK : XKn G s) {a : Nat} {i v : Int32} {k : XH → XR} (hd : decode cc pc = .ok (.iastore, 1)) (hk : ∀ h, XSim p l e R s m args below meth c cells slots Q G z N0 nL (pc + 1) lv st h (k h)) :
    XSim p l e R s m args below meth c cells slots Q G z N0 nL pc lv (.int v :: .int i :: .ref a :: st) h (wrI h a i v k) := by
  unfold wrI
  split
  · rename_i t n f ha
    refine XSim.ite (fun q => XSim.write (st' := st) (nx := pc + 1) (h1 := xhs h a (xnum t n (upd f i.toNatClampNeg v))) rfl (hk _) fun Z H locs ls hI kk => ?_) (fun _ => XSim.none)
    obtain ⟨rfl, hi⟩ := q
    have hin := xvin hi
    obtain ⟨hn, ht, hz, hH⟩ := hI.num ha
    refine W.iast hx hb hH ((hK.1.2 0 _ rfl).1 n _) (fun q => by cases q) (by rw [arrV_size]; exact hin) rfl rfl hd (fun H1 e1 e2 e3 => kk H1 _ (hI.set hz ?_ e2 e3))
    refine ⟨hn, ht, hz, ?_⟩
    rw [e1]
    rw [arrV_store, xupd]
  · exact XSim.none
theorem XSim_wrB (hx : p.tables.exec = Jvm.exec) (hb : c.code = cc) (hK : XKn G s) {a : Nat} {i v : Int32} {k : XH → XR} (hd : decode cc pc = .ok (.bastore, 1)) (hk : ∀ h, XSim p l e R s m args below meth c cells slots Q G z N0 nL (pc + 1) lv st h (k h)) :
    XSim p l e R s m args below meth c cells slots Q G z N0 nL pc lv (.int v :: .int i :: .ref a :: st) h (wrB h a i v k) := by
  unfold wrB
  split
  · rename_i t n f ha
    refine XSim.ite (fun hi => XSim_ob fun x hx2 => ?_) (fun _ => XSim.none)
    refine XSim.write (st' := st) (nx := pc + 1) (h1 := xhs h a (xnum t n (upd f i.toNatClampNeg x))) rfl (hk _) fun Z H locs ls hI kk => ?_
    obtain ⟨hn, ht, hz, hH⟩ := hI.num ha
    unfold vwB at hx2
    split at hx2
    · rename_i e1
      subst e1
      cases hx2
      refine W.bast hx hb hH ((hK.1.2 1 _ rfl).1 n _) (fun q => by cases q) (by rw [arrV_size]; exact xvin hi) rfl rfl hd (fun H1 e1 e2 e3 => kk H1 _ (hI.set hz ?_ e2 e3))
      refine ⟨hn, ht, hz, ?_⟩
      rw [e1]
      show some ((arrV _ _ _).setSlot _ (.int v.toInt8.toInt32)) = _
      rw [arrV_store, xupd]
    · split at hx2
      · rename_i e1
        obtain ⟨rfl, hv⟩ := e1
        cases hx2
        refine W.zast hx hb hH ((hK.1.2 2 _ rfl).1 n _) (fun q => by cases q) (by rw [arrV_size]; exact xvin hi) rfl rfl hd (fun H1 e1 e2 e3 => kk H1 _ (hI.set hz ?_ e2 e3))
        refine ⟨hn, ht, hz, ?_⟩
        rw [e1]
        have hv2 : narrow .boolean (.int v) = .int v := by
          rcases hv with rfl | rfl
          · exact narrow_b0
          · exact narrow_b1
        rw [hv2, arrV_store, xupd]
      · cases hx2
  · exact XSim.none
theorem vO_some {hh : XH} {a d : Nat} {F : Nat → Value} (hv : vO hh a d = some F) : hh.2 a = some (.inr (.inr (d, F))) ∨ (d = 10 ∧ hh.1.2.2.2 a = some F) := by
  unfold vO at hv
  split at hv
  · rename_i c2 F2 ha
    split at hv
    · rename_i e1
      subst e1
      cases hv
      exact Or.inl ha
    · cases hv
  · split at hv
    · rename_i e1
      exact Or.inr ⟨e1, hv⟩
    · cases hv
  · cases hv
theorem vO_ob (hK : XKn G s) {a d : Nat} {F : Nat → Value} (hv : vO h a d = some F) : ∀ H locs, XI G z N0 s h H locs → XOb G s H a d F := fun H locs hI => by
  rcases vO_some hv with ha | ⟨rfl, ha⟩
  · exact hI.objc hK ha
  · exact hI.text ha
theorem XSim_rdR (hx : p.tables.exec = Jvm.exec) (hb : c.code = cc) {a : Nat} {i : Int32} {k : Nat → XR} (hd : decode cc pc = .ok (.aaload, 1)) (hk : ∀ v, XSim p l e R s m args below meth c cells slots Q G z N0 nL (pc + 1) lv (.ref v :: st) h (k v)) :
    XSim p l e R s m args below meth c cells slots Q G z N0 nL pc lv (.int i :: .ref a :: st) h (rdR h a i k) := by
  refine XSim_ob fun v hv => (hk v).read fun Z H locs ls hI kk => ?_
  unfold vdR at hv
  split at hv
  · rename_i c2 n f ha
    split at hv
    · rename_i q
      obtain ⟨-, -, q2, cA, -, h1, -, h2⟩ := hI.1.2.1 a _ ha
      exact W.aald hx hb h2 (h1 n _) rfl (fun q => by cases q) (by rw [arrV_size]; exact xvin q) (by rw [arrV_read _ _ q.2, hv]; rfl) rfl rfl hd kk
    · cases hv
  · cases hv
theorem XSim_wrR (hx : p.tables.exec = Jvm.exec) (hb : c.code = cc) (hK : XKn G s) {a v : Nat} {i : Int32} {k : XH → XR} (hd : decode cc pc = .ok (.aastore, 1)) (hk : ∀ h, XSim p l e R s m args below meth c cells slots Q G z N0 nL (pc + 1) lv st h (k h)) :
    XSim p l e R s m args below meth c cells slots Q G z N0 nL pc lv (.ref v :: .int i :: .ref a :: st) h (wrR h a i v k) := by
  unfold wrR
  split
  · rename_i c2 n f ha
    refine XSim.ite (fun hi => ?_) (fun _ => XSim.none)
    refine XSim_ob fun F hv => ?_
    refine XSim.write (st' := st) (nx := pc + 1) (h1 := xhs h a (xref c2 n (va_up f i.toNatClampNeg (some v)))) rfl (hk _) fun Z H locs ls hI kk => ?_
    obtain ⟨hn, hz, q2, cA, hq, h1, h3, h2⟩ := hI.1.2.1 a _ ha
    rcases vO_some hv with hv | ⟨rfl, hv⟩
    · obtain ⟨-, q', hq', cellV, g1, g2, g3, -⟩ := hI.obj hv
      have hcls := (hK.1.1 c2 q2 hq).2
      obtain ⟨kA, comp, k1, k2, k3, -⟩ := id h3
      have hcomp : comp = G.1.1 c2 := Option.some.inj (k3.symm.trans hcls.1)
      subst hcomp
      obtain ⟨kC, hkC, -⟩ := id hcls.2
      refine W.aast hx hb h2 (fun q h => by cases h) (fun h => by cases h) k1 k2 rfl hkC ⟨Int32.not_lt.mpr hi.1, by rw [arrV_size]; exact hi.2⟩ g1 (fun q h => by rw [g3] at h; cases h) (by rw [g2]; exact hkC) (by rw [g2]; exact va_assign hcls) rfl rfl hd fun H1 e1 e2 e3 => kk H1 _ (hI.set hz ⟨hn, hz, q2, cA, hq, h1, h3, ?_⟩ e2 e3)
      rw [e1, arrV_store]
      congr 2
      funext j
      by_cases hj : j = i.toNatClampNeg
      · subst hj
        simp [updV, va_up, va_rf]
      · simp [updV, va_up, hj]
    · simp [vwCl] at hq
  · exact XSim.none
theorem XSim_lnA (hx : p.tables.exec = Jvm.exec) (hb : c.code = cc) (hK : XKn G s) {a : Nat} {k : Int32 → XR} (hd : decode cc pc = .ok (.arraylength, 1)) (hk : ∀ v, XSim p l e R s m args below meth c cells slots Q G z N0 nL (pc + 1) lv (.int v :: st) h (k v)) :
    XSim p l e R s m args below meth c cells slots Q G z N0 nL pc lv (.ref a :: st) h (lnA h a k) := by
  refine XSim_ob fun v hv => (hk v).read fun Z H locs ls hI kk => ?_
  unfold vlA at hv
  split at hv
  · rename_i t n f ha
    cases hv
    obtain ⟨hn, ht, hz, hH⟩ := hI.num ha
    rcases (show t = 0 ∨ t = 1 ∨ t = 2 by omega) with rfl | rfl | rfl
    · exact W.alen hx hb hH ((hK.1.2 0 _ rfl).1 n _) (by rw [arrV_size]) rfl rfl hd kk
    · exact W.alen hx hb hH ((hK.1.2 1 _ rfl).1 n _) (by rw [arrV_size]) rfl rfl hd kk
    · exact W.alen hx hb hH ((hK.1.2 2 _ rfl).1 n _) (by rw [arrV_size]) rfl rfl hd kk
  · rename_i c n f ha
    cases hv
    obtain ⟨-, -, q2, cA, -, h1, -, h2⟩ := hI.1.2.1 a _ ha
    exact W.alen hx hb h2 (h1 n _) (by rw [arrV_size]) rfl rfl hd kk
  · split at hv
    · rename_i n f ha
      cases hv
      obtain ⟨-, -, cell, h1, h2, h3, h4, h4', h5⟩ := hI.1.2.2.2.1 a n f ha
      exact W.alen hx hb h1 h2 h4' rfl rfl hd kk
    · split at hv
      · rename_i n f ha
        cases hv
        obtain ⟨-, -, cell, h1, h2, h3, h4, h4', h5⟩ := hI.1.2.2.2.2.1 a n f ha
        exact W.alen hx hb h1 h2 h4' rfl rfl hd kk
      · cases hv
  · cases hv
theorem XSim_get (hx : p.tables.exec = Jvm.exec) (hb : c.code = cc) (hK : XKn G s) (hown : s.vm.findClass own = some m.cls) (hts : ∀ w ∈ xw, w.before args s = true) {a ix d x : Nat} {v : Value} {q : vw_C} (hq : xcl[d]? = some q) (hxq : x < q.2.2) (hln : Cond.fieldLink own ix (q.2.1 x).1 (q.2.1 x).2.1 (q.2.1 x).2.2.1 ∈ xw) (hd : decode cc pc = .ok (.getfield ix, 3))
    {F : Nat → Value} (ha : ∀ H locs, XI G z N0 s h H locs → XOb G s H a d F) (hv : F x = v) (hk : XSim p l e R s m args below meth c cells slots Q G z N0 nL (pc + 3) lv (v :: st) h r) :
    XSim p l e R s m args below meth c cells slots Q G z N0 nL pc lv (.ref a :: st) h r := by
  refine hk.read fun Z H locs ls hI kk => ?_
  obtain ⟨q', cell, hq', c1, c3, -, -, c4⟩ := ha H locs hI
  cases hq.symm.trans hq'
  obtain ⟨cf, kf, fi, f, f1, f2, f3⟩ := hK.2.1 d q hq x hxq
  exact W.getf hx hb hown (hts _ hln) f1 f3 c1 c3 (by rw [f2, c4 x hxq, hv]) rfl rfl hd kk
theorem XSim_put (hx : p.tables.exec = Jvm.exec) (hb : c.code = cc) (hK : XKn G s) (hown : s.vm.findClass own = some m.cls) (hts : ∀ w ∈ xw, w.before args s = true) {a ix d x : Nat} {v : Value} {q : vw_C} (hq : vwCl[d]? = some q) (hxq : x < q.2.2) (hln : Cond.fieldLink own ix (q.2.1 x).1 (q.2.1 x).2.1 (q.2.1 x).2.2.1 ∈ xw) (hfin : (q.2.1 x).2.2.2 = false)
    {ty : FieldType} (hpd : parseFieldDescriptor (q.2.1 x).2.2.1 = some ty) (hn : narrow ty v = v) (hfit : fits ty v = true) (hd : decode cc pc = .ok (.putfield ix, 3)) {k : XH → XR}
    (hk : ∀ h, XSim p l e R s m args below meth c cells slots Q G z N0 nL (pc + 3) lv st h (k h)) :
    XSim p l e R s m args below meth c cells slots Q G z N0 nL pc lv (v :: .ref a :: st) h (pV h a d x v k) := by
  unfold pV
  split
  · rename_i d2 F ha
    refine XSim.ite (fun e1 => ?_) (fun _ => XSim.none)
    subst e1
    refine XSim.write (st' := st) (nx := pc + 3) (h1 := xhs h a (xobj d2 (updV F x v))) rfl (hk _) fun Z H locs ls hI kk => ?_
    obtain ⟨hz, q', hq', cell, c1, c2, c3, c4⟩ := hI.obj ha
    cases hq.symm.trans hq'
    obtain ⟨hin, hnm, tyq, hty⟩ := xcls d2 q hq
    have hap := va_apart (own := own) hts hin tyq hty hnm (xTy hK) hq
    obtain ⟨hS, hfc, kC, hkC, hkind⟩ := hK.1.1 d2 _ hq
    obtain ⟨cf, kf, fi, f, hi, hsl⟩ := hS x hxq
    have hlay := hts _ (hin _ (u_in_lay hxq))
    unfold u_lay at hlay
    rw [if_neg (by rw [hfin]; decide)] at hlay
    have hst := (u_facts hfc hkC (u_lays hts hin hxq) hi).1
    have h6 := u_store hfc hkC hkind hlay hi hpd hn hfit
    refine W.putK hx hb (f := f) ⟨hown, hts _ hln, ⟨_, _, _, hi⟩, hst⟩ (by rw [c2]; exact h6) c1 c3 (by rw [hsl]; exact k2_hasslot (c4 x hxq)) rfl rfl hd fun H' e1 e2 e3 => ?_
    rw [hsl] at e1 ⊢
    refine kk H' _ (hI.set hz ⟨hz, _, hq, t_OB.to (V := updV F x v) ⟨_, e1, c2, c3, t_set c4 hap hxq v⟩ (fun j _ => rfl)⟩ e2 e3)
  · exact XSim.none
theorem XSim_static (hx : p.tables.exec = Jvm.exec) (hb : c.code = cc) (hown : s.vm.findClass own = some m.cls) (hts : ∀ w ∈ xw, w.before args s = true) {ix k : Nat} {q : String × String × String} (hq : xsts[k]? = some q) (hln : Cond.fieldLink own ix q.1 q.2.1 q.2.2 ∈ xw ∨ ∃ host, Cond.fieldLinkNest own ix q.1 q.2.1 q.2.2 host ∈ xnw) (hd : decode cc pc = .ok (.getstatic ix, 3))
    {v : Value} (hv : h.1.1 k = v) (hk : XSim p l e R s m args below meth c cells slots Q G z N0 nL (pc + 3) lv (v :: st) h r) :
    XSim p l e R s m args below meth c cells slots Q G z N0 nL pc lv st h r := by
  refine hk.read fun Z H locs ls hI kk => ?_
  obtain ⟨cf, kf, fi, f, b, cell, h1, h2, h3, h4, h5, h6, h7, h8⟩ := hI.1.2.2.1 k q hq
  rw [hv] at h7
  rcases hln with hln | ⟨host, hln⟩
  · exact W.gets hx hb hown (hts _ hln) h1 h2 h3 h4 h5 (fun e => by rw [e] at h6; cases h6) h7 rfl hd kk
  · exact va_WgetsN hx hb hown (va_Nw.use rfl (hI.2.2.2.2.2.1 _ hln)) h1 h2 h3 h4 h5 (fun e => by rw [e] at h6; cases h6) h7 rfl hd kk
theorem XSim_str (hx : p.tables.exec = Jvm.exec) (hb : c.code = cc) (hown : s.vm.findClass own = some m.cls) {ix k : Nat} {q : String × Nat × String} (hq : xstrs[k]? = some q) (ho : own = q.1) (hix : ix = q.2.1) (hd : decode cc pc = .ok (.ldc ix, 2))
    {a : Nat} (hv : h.1.1 (10 + k) = .ref a) (hk : XSim p l e R s m args below meth c cells slots Q G z N0 nL (pc + 2) lv (.ref a :: st) h r) :
    XSim p l e R s m args below meth c cells slots Q G z N0 nL pc lv st h r := by
  refine hk.read fun Z H locs ls hI kk => ?_
  obtain ⟨b, h1, h2⟩ := hI.2.2.2.2.1 k q hq
  rw [hv] at h1
  cases h1
  subst ho; subst hix
  exact va_ldcS hx hb hown h2 hd kk
/-- arraycopy's words -/
def XCp (own : String) (ix : Nat) (R : Room) : Prop := Cond.methodLink own ix arraycopyName ∈ xw ∧ Cond.native arraycopyName ∈ xw ∧ Cond.static arraycopyName ∈ xw ∧ Cond.initialized "java/lang/System" ∈ xw ∧ 1 ≤ R.frames ∧ 8 + (nativeFrameWords "java/lang/System" "arraycopy" 5 + 11) ≤ R.locals
def XMt (own : String) (ix : Nat) (y : MethodName) (code : ByteArray) (n : Nat) (R : Room) : Prop := Cond.methodLink own ix y ∈ xw ∧ Cond.static y ∈ xw ∧ Cond.initialized "java/lang/Math" ∈ xw ∧ Cond.code y code n (some .int) ∈ xw ∧ 1 ≤ R.frames ∧ 21 ≤ R.locals
def XIn (own : String) (ix : Nat) (v : Int32) (R : Room) : Prop := if v = 9 then XCp own ix R else if v = 1 then XMt own ix Lib.Math.abs.name Lib.Math.abs.code 1 R else if v = 2 then XMt own ix Lib.Math.max.name Lib.Math.max.code 2 R else if v = 3 then XMt own ix Lib.Math.min.name Lib.Math.min.code 2 R else False
theorem XSim_copy (hx : p.tables.exec = Jvm.exec) (hb : c.code = cc) (hml : c.maxLocals = nL) (hK : XKn G s) (hown : s.vm.findClass own = some m.cls) (hts : ∀ w ∈ xw, w.before args s = true) {ix : Nat} (hc : XCp own ix R) {a b : Nat} {sp dp n : Int32} {k : XH → XR} (hst : (st.map fun v => v.category).sum ≤ 8) (hd : decode cc pc = .ok (.invokestatic ix, 3)) (hk : ∀ h, XSim p l e R s m args below meth c cells slots Q G z N0 nL (pc + 3) lv st h (k h)) :
    XSim p l e R s m args below meth c cells slots Q G z N0 nL pc lv (.int n :: .int dp :: .ref b :: .int sp :: .ref a :: st) h (cpI h a sp b dp n k) := by
  unfold cpI
  split
  · rename_i t m1 f u q1 g ha hb2
    refine XSim.ite (fun q => ?_) (fun _ => XSim.none)
    obtain ⟨⟨rfl, rfl, hab⟩, ⟨i1, i2, i3⟩, i4, i5⟩ := q
    refine XSim.writeL (st' := st) (nx := pc + 3) (h1 := xhs h b (xnum 0 q1 (va_cpy f g sp.toNatClampNeg dp.toNatClampNeg n.toNatClampNeg))) rfl (hk _) fun Z H locs ls hI hls kk => ?_
    have nn : ∀ z : Int32, ¬ z < 0 → z.toInt = (z.toNatClampNeg : Int) := by
      intro z hz
      have hz0 : (0 : Int) ≤ z.toInt := by
        have := Int32.not_lt.mp hz
        simpa using Int32.le_iff_toInt_le.mp this
      show z.toInt = ((z.toInt.toNat : Nat) : Int)
      omega
    have h1 : ¬ sp < 0 := Int32.not_lt.mpr i1
    have h2 : ¬ dp < 0 := Int32.not_lt.mpr i2
    have h3 : ¬ n < 0 := Int32.not_lt.mpr i3
    obtain ⟨hm1, -, hza, hc0⟩ := hI.num ha
    obtain ⟨hq1, -, hzb, hc1⟩ := hI.num hb2
    obtain ⟨w1, w2, w3, w4, w5, w6⟩ := hc
    intro T hT X
    obtain ⟨-, k0, hk0, cm0, hkk0⟩ := (hK.1.2 0 _ rfl).1 m1 (fun j => .int (f j))
    obtain ⟨-, k1, hk1, cm1, hkk1⟩ := (hK.1.2 0 _ rfl).1 q1 (fun j => .int (g j))
    obtain ⟨vm', X', step⟩ := X.arraycopy hx hown (hts _ w1) (hts _ w2) (hts _ w3) (hts _ w4) (src := a) (dst := b) (cs := arrV (G.2 0) m1 (fun j => .int (f j))) (cd := arrV (G.2 0) q1 (fun j => .int (g j))) (srcPos := sp) (destPos := dp) (n := n) (by rw [hT]; exact hc0) (by rw [hT]; exact hc1)
      (fun _ h => by cases h) (fun _ h => by cases h) (fun h => by cases h) (fun h => by cases h) hk0 hk1 hkk0 hkk1 (by simp [refKind]) h1 h2 h3
      (by rw [nn sp h1, nn n h3]; show ¬ _ > ((arrV _ m1 (fun j => .int (f j))).slots.size : Int); rw [arrV_size]; omega)
      (by rw [nn dp h2, nn n h3]; show ¬ _ > ((arrV _ q1 (fun j => .int (g j))).slots.size : Int); rw [arrV_size]; omega)
      (fun vm₁ _ i hi => by
        have e : (arrV (G.2 0) m1 (fun j => Value.int (f j))).slots.getD (sp.toNatClampNeg + i) .null = .int (f (sp.toNatClampNeg + i)) := by
          rw [Array.getD_eq_getD_getElem?, arrV_read _ _ (by omega)]
          rfl
        refine ⟨?_, ?_⟩
        · rw [e]; rfl
        · rw [e]
          exact trivial)
      (g := F0 m pc ls (.int n :: .int dp :: .ref b :: .int sp :: .ref a :: st)) rfl (by rw [hml]; exact hls) (rest := st) rfl (by rw [hb]; exact hd) w5 (by show 2 * 0 + _ + _ ≤ _; omega)
    have e1 : copied (arrV (G.2 0) m1 (fun j => .int (f j))) (arrV (G.2 0) q1 (fun j => .int (g j))) sp dp n = arrV (G.2 0) q1 (fun j => .int (va_cpy f g sp.toNatClampNeg dp.toNatClampNeg n.toNatClampNeg j)) := va_copied (fun z => .int z) _ _ f g i4
    rw [e1] at X' step
    have hl : b < H.size := (Array.getElem?_eq_some_iff.mp hc1).1
    have hheap : ((T.setVm vm').setCell b (arrV (G.2 0) q1 (fun j => .int (va_cpy f g sp.toNatClampNeg dp.toNatClampNeg n.toNatClampNeg j)))).heap = H.setIfInBounds b (arrV (G.2 0) q1 (fun j => .int (va_cpy f g sp.toNatClampNeg dp.toNatClampNeg n.toNatClampNeg j))) := by rw [← hT]; rfl
    have oq : ∀ q : Nat, q ≠ b → (H.setIfInBounds b (arrV (G.2 0) q1 (fun j => .int (va_cpy f g sp.toNatClampNeg dp.toNatClampNeg n.toNatClampNeg j))))[q]? = H[q]? := fun q hq => by simp [Array.getElem?_setIfInBounds, Ne.symm hq]
    have hI0 := hI.set (i := 0) hzb (e := xnum 0 q1 (va_cpy f g sp.toNatClampNeg dp.toNatClampNeg n.toNatClampNeg)) (H1 := H.setIfInBounds b (arrV (G.2 0) q1 (fun j => .int (va_cpy f g sp.toNatClampNeg dp.toNatClampNeg n.toNatClampNeg j)))) ⟨hq1, by decide, hzb, by simp [Array.getElem?_setIfInBounds, hl]⟩ (by simp) oq
    obtain ⟨t, a1, b1⟩ := kk _ _ ⟨hI0.1, hI0.2.1, hI0.2.2.1, fun q hq => by
        rcases List.mem_append.mp hq with h | h
        · exact hI.2.2.2.1 q h
        · obtain ⟨z, -, hz⟩ := List.mem_map.mp h
          rw [← hz]
          exact hzb, hI.2.2.2.2⟩ _ hheap X'
    exact ⟨t, step t a1, b1⟩
  · exact XSim.none
end XS2
