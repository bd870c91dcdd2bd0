/-! making things: a body that allocates, run over the heap and counts of cells and slots -/
def xdf (d : Nat) : Nat → Value := fun k => match vwCl[d]? with
  | some q => (match parseFieldDescriptor (q.2.1 k).2.2.1 with
    | some ty => defaultValue ty
    | none => .null)
  | none => .null
/-- constructors: cells, slots, number of the class, what it does to the heap (this, heap, first free address) -/
abbrev XCn : Type := Nat × Nat × Nat × (Nat → XH → Nat → XR)
/-- rows that make things or end; classes of 'new'; components of 'anewarray'; constructors called; final fields that are set -/
abbrev XAx : Type := List (Nat × XRow) × List (Nat × (Nat × Nat)) × List (Nat × Nat) × List (Nat × XCn) × List (Nat × (Nat × Nat))
def atag : ArrayType → Option Nat
  | .int => some 0
  | .byte => some 1
  | .boolean => some 2
  | _ => none
/-- N0: the heap's size at the entry; c, n: cells and slots made so far; mc, ms: how many there will be -/
def xallo (B : XAx) (N0 mc ms : Nat) (c n : Nat) (w : XRow) (lv : XLV) (st : List Value) (h : XH) (K : Nat → Nat → XK) : XR := match w.1 with
  | .new _ => match xfind B.2.1 w.2.2.1 with
    | some (d, k) => if c + 1 ≤ mc ∧ n + k ≤ ms then K (c + 1) (n + k) w.2.1 lv (.ref (N0 + c) :: st) (xhs h (N0 + c) (xobj d (xdf d))) else none
    | none => none
  | .newarray t => match st, atag t with
    | .int x :: r, some tg => if (0 ≤ x ∧ x.toNatClampNeg ≤ 20000) ∧ c + 1 ≤ mc ∧ n + x.toNatClampNeg ≤ ms then K (c + 1) (n + x.toNatClampNeg) w.2.1 lv (.ref (N0 + c) :: r) (xhs h (N0 + c) (xnum tg x.toNatClampNeg (fun _ => 0))) else none
    | _, _ => none
  | .anewarray _ => match xfind B.2.2.1 w.2.2.1, st with
    | some d, .int x :: r => if (0 ≤ x ∧ x.toNatClampNeg ≤ 20000) ∧ c + 1 ≤ mc ∧ n + x.toNatClampNeg ≤ ms then K (c + 1) (n + x.toNatClampNeg) w.2.1 lv (.ref (N0 + c) :: r) (xhs h (N0 + c) (xref d x.toNatClampNeg (fun _ => none))) else none
    | _, _ => none
  | .invokespecial _ => match st with
    | .ref a :: r => if (r.map fun v => v.category).sum ≤ 8 then (if w.2.2.2.1 = .int 7 then K c n w.2.1 lv r h else match xfind B.2.2.2.1 w.2.2.1 with
      | some (mc1, ms1, d, f) => if c + mc1 ≤ mc ∧ n + ms1 ≤ ms then bV (f a h (N0 + c)) (fun h1 => K (c + mc1) (n + ms1) w.2.1 lv r h1) else none
      | none => none) else none
    | _ => none
  | .putfield _ => match xfind B.2.2.2.2 w.2.2.1, st with
    | some (d, x), .ref v :: .ref a :: r => pV h a d x (.ref v) (fun h => K c n w.2.1 lv r h)
    | _, _ => none
  | .return_ => if c = mc ∧ n = ms then (match st with
    | [] => rV h
    | _ => none) else none
  | _ => none
def xrunA (B : XB) (A : XAx) (N0 mc ms : Nat) : Nat → Nat → Nat → XK
  | 0, _, _, _, _, _, _ => none
  | k + 1, c, n, pc, lv, st, h => match xfind A.1 pc with
    | some w => xallo A N0 mc ms c n w lv st h (xrunA B A N0 mc ms k)
    | none => match xfind B.1 pc with
      | some w => if c ≤ mc ∧ n ≤ ms then xstep B w lv st h (xrunA B A N0 mc ms k c n) else none
      | none => none
theorem xar_i : Cond.arrayClass .int ∈ tables_1 := List.mem_append_left _ (List.mem_of_getElem? (i := 92) rfl)
theorem xar_b : Cond.arrayClass .byte ∈ tables_1 := List.mem_append_left _ (List.mem_of_getElem? (i := 43) rfl)
theorem xar_z : Cond.arrayClass .boolean ∈ tables_1 := List.mem_append_left _ (List.mem_of_getElem? (i := 193) rfl)
/-- what a constructor owes -/
def XQA (G : XG) (z mc : Nat) (h : XH) : Array Value → State → Outcome → State → Prop := fun _ st o t => o = .returned none ∧ XRel G z h t t.heap ∧ t.heap.size = st.heap.size + mc ∧ (∀ q : Nat, q < z → t.heap[q]? = st.heap[q]?) ∧ XStr h.1.1 t
def XPA (G : XG) (z a : Nat) (h : XH) (N : Nat) : Array Value → State → Prop := fun av U => av = #[.ref a] ∧ XRel G z h U U.heap ∧ XKn G U ∧ XStr h.1.1 U ∧ U.heap.size = N
abbrev xrmA (fr lo mc ms : Nat) : Room := { frames := fr, cells := mc, slots := ms, locals := lo }
def XSA (y : MethodName) (bytes : ByteArray) (maxL : Nat) (fr lo mc ms : Nat) (f : Nat → XH → Nat → XR) : Prop := ∀ (l : Launch) (G : XG) (z a : Nat) (h : XH) (N : Nat) (h' : XH), f a h N = some (none, h') → Met l y (.code y bytes maxL none :: xw) (xrmA fr lo mc ms) (XPA G z a h N) (XQA G z mc h') mc ms (fun q => z ≤ q)
theorem xat.lt {G : XG} {z : Nat} {s : State} {H : Heap} {a : Nat} {e : XE} (h : xat G z s H a e) : a < H.size := by
  rcases e with ⟨t, n, f⟩ | ⟨c, n, f⟩ | ⟨d, F⟩
  · exact (Array.getElem?_eq_some_iff.mp h.2.2.2).1
  · obtain ⟨-, -, q, cA, -, -, -, h2⟩ := h
    exact (Array.getElem?_eq_some_iff.mp h2).1
  · obtain ⟨-, q, -, cell, h2, -⟩ := h
    exact (Array.getElem?_eq_some_iff.mp h2).1
section XSA1
variable {p : Program} {l : Launch} {e : Env} {R : Room} {s : State} {m : MethodId} {args : Array Value} {below : List Frame} {meth : Method} {c : Code} {cells slots : Nat} {Q : Option Value → XH → State → Prop} {G : XG} {z N0 nL : Nat}
variable {cc : ByteArray} {own : String} {pc nx : Nat} {lv : XLV} {st : List Value} {h : XH} {r : XR}
theorem XI.push {H H1 : Heap} {locs : List Loc} {e : XE} (hI : XI G z N0 s h H locs) (hs : H1.size = N0 + 1) (ho : ∀ q, q < N0 → H1[q]? = H[q]?) (he : z ≤ N0 → xat G z s H1 N0 e) : XI G z (N0 + 1) s (xhs h N0 e) H1 locs := by
  obtain ⟨⟨i1, i2, i3, i8⟩, i4, i5, i6, i7⟩ := hI
  have hz : z ≤ N0 := by rw [← i4]; exact i1
  refine ⟨⟨by omega, fun b x hb => ?_, fun k q hq => ?_, i8.kept fun q hq => ho q (by omega)⟩, hs, fun q hq => (ho q (by omega)).trans (i5 q hq), i6, i7⟩
  · simp only [xhs] at hb
    split at hb
    · rename_i e1
      subst e1
      cases hb
      exact he hz
    · have h1 := i2 b x hb
      refine h1.kept (ho b ?_)
      have h2 := xat.lt h1
      omega
  · obtain ⟨cf, kf, fi, f, b, cell, h1, h2, h3, h4, h5, h6, h7, h8⟩ := i3 k q hq
    refine ⟨cf, kf, fi, f, b, cell, h1, h2, h3, h4, ?_, h6, h7, h8⟩
    rw [ho b (by have := (Array.getElem?_eq_some_iff.mp h5).1; omega)]
    exact h5
end XSA1
section XSA2
variable {p : Program} {l : Launch} {e : Env} {R : Room} {s : State} {m : MethodId} {args : Array Value} {below : List Frame} {meth : Method} {c : Code} {cells slots : Nat} {Q : Option Value → XH → State → Prop} {G : XG} {z N0 nL : Nat}
variable {cc : ByteArray} {own : String} {pc nx : Nat} {lv : XLV} {st : List Value} {h : XH} {r : XR}
/-- what the tables say of the things that a body makes -/
def XNew (own : String) (ix d k : Nat) : Prop := ∃ q, vwCl[d]? = some q ∧ k = q.2.2 ∧ Cond.classLink own ix q.1 ∈ xw ∧ Cond.instantiable q.1 k ∈ xw ∧ Cond.initialized q.1 ∈ xw
def XAnw (own : String) (ix d : Nat) : Prop := (d = 3 ∨ d = 5) ∧ ∃ q, vwCl[d]? = some q ∧ Cond.classLink own ix q.1 ∈ xw
def XCons (own : String) (ix : Nat) (fr lo : Nat) (o : XCn) : Prop := ∃ (y : MethodName) (bytes : ByteArray) (maxL : Nat) (fr1 lo1 : Nat) (q : vw_C), XSA y bytes maxL fr1 lo1 o.1 o.2.1 o.2.2.2 ∧ vwCl[o.2.2.1]? = some q ∧ fr1 + 1 ≤ fr ∧ 8 + (maxL + 11) + lo1 ≤ lo ∧ Cond.code y bytes maxL none ∈ xw ∧ (Cond.methodLink own ix y ∈ xw ∨ ∃ host, Cond.methodLinkNest own ix y host ∈ xnw) ∧ Cond.instanceMethod y ∈ xw ∧ Cond.initialized y.cls ∈ xw ∧ y.name = "<init>" ∧
  (y.cls ≠ "java/lang/invoke/MethodHandle" ∧ y.cls ≠ "java/lang/invoke/VarHandle" ∧ (parseMethodDescriptor y.desc).map (fun d => d.parameters.length) = some 0)
def XObj (own : String) (ix : Nat) (fr lo : Nat) : Prop := Cond.methodLink own ix Lib.objectInit ∈ xw ∧ Cond.instanceMethod Lib.objectInit ∈ xw ∧ Cond.code Lib.objectInit ⟨#[0xb1]⟩ 1 none ∈ xw ∧ 1 ≤ fr ∧ 20 ≤ lo
theorem XSim_new (hx : p.tables.exec = Jvm.exec) (hb : c.code = cc) (hK : XKn G s) (hown : s.vm.findClass own = some m.cls) (hts : ∀ w ∈ xw, w.before args s = true) {ix d k : Nat} (ho : XNew own ix d k) (hR : cells + 1 ≤ R.cells ∧ slots + k ≤ R.slots) (hd : decode cc pc = .ok (.new ix, 3))
    (hk : XSim p l e R s m args below meth c (cells + 1) (slots + k) Q G z (N0 + 1) nL (pc + 3) lv (.ref N0 :: st) (xhs h N0 (xobj d (xdf d))) r) :
    XSim p l e R s m args below meth c cells slots Q G z N0 nL pc lv st h r := by
  intro rv h' hr H locs ls hI hl
  obtain ⟨q, hq, rfl, w1, w2, w3⟩ := ho
  obtain ⟨hin, hnm, ty, hty⟩ := xcls d q hq
  have hKn := hK.1.1 d q hq
  refine W.newcK hx hb hown (hts _ w1) (hts _ w2) (hts _ w3) rfl hd hR.1 hR.2 hKn.2.1 hI.2.1 fun H1 kC hkC e1 z1 o1 => ?_
  refine hk rv h' hr H1 locs ls (hI.push z1 o1 fun hz => ⟨hz, q, hq, ?_⟩) hl
  · refine (u_born ty hts hin hKn hkC e1 hty).to fun j hj => ?_
    unfold xdf
    rw [hq]
    dsimp only
    rw [hty j hj]
theorem XSim_newarr (hx : p.tables.exec = Jvm.exec) (hb : c.code = cc) (hK : XKn G s) (hts : ∀ w ∈ xw, w.before args s = true) {t : ArrayType} {tg : Nat} (ht : atag t = some tg) {x : Int32} (hx0 : 0 ≤ x ∧ x.toNatClampNeg ≤ 20000) (hR : cells + 1 ≤ R.cells ∧ slots + x.toNatClampNeg ≤ R.slots) (hd : decode cc pc = .ok (.newarray t, 2))
    (hk : XSim p l e R s m args below meth c (cells + 1) (slots + x.toNatClampNeg) Q G z (N0 + 1) nL (pc + 2) lv (.ref N0 :: st) (xhs h N0 (xnum tg x.toNatClampNeg (fun _ => 0))) r) :
    XSim p l e R s m args below meth c cells slots Q G z N0 nL pc lv (.int x :: st) h r := by
  intro rv h' hr H locs ls hI hl
  have hn : ¬ x < 0 := Int32.not_lt.mpr hx0.1
  have key : ∀ (ty : FieldType), newarray.typeOf t = ty → Cond.arrayClass ty ∈ xw → defaultValue ty = .int 0 → s.vm.findClass ("[" ++ ty.toString) = some (G.2 tg) → tg < 3 → componentBytes ty ≤ 8 → W p l e R s m args below meth c H locs cells slots (Q rv h') (F0 m pc ls (.int x :: st)) := by
    intro ty e1 e2 e3 e4 e5 e6
    refine va_newaK hx hb (atype := t) (by rw [e1]; exact hts _ e2) rfl hd rfl hn rfl (by rw [e1]; exact Nat.le_trans (Nat.mul_le_mul hx0.2 e6) (Nat.le_of_ble_eq_true rfl)) hR.1 hR.2 hI.2.1 fun H1 cA f1 f2 f3 f4 f5 => ?_
    rw [e1] at f1 f4 f5
    cases e4.symm.trans f5
    refine hk rv h' hr H1 locs ls (hI.push f2 f3 fun hz => ⟨Nat.lt_of_le_of_lt hx0.2 (Nat.le_of_ble_eq_true rfl), e5, hz, ?_⟩) hl
    rw [f1, e3]
  cases t <;> simp only [atag] at ht <;> cases ht
  · exact key .boolean rfl (xw_mem xar_z rfl) rfl (hK.1.2 2 _ rfl).2 (by decide) (by decide)
  · exact key .byte rfl (xw_mem xar_b rfl) rfl (hK.1.2 1 _ rfl).2 (by decide) (by decide)
  · exact key .int rfl (xw_mem xar_i rfl) rfl (hK.1.2 0 _ rfl).2 (by decide) (by decide)
theorem XSim_newref (hx : p.tables.exec = Jvm.exec) (hb : c.code = cc) (hown : s.vm.findClass own = some m.cls) (hts : ∀ w ∈ xw, w.before args s = true) {ix d : Nat} (ho : XAnw own ix d) {x : Int32} (hx0 : 0 ≤ x ∧ x.toNatClampNeg ≤ 20000) (hR : cells + 1 ≤ R.cells ∧ slots + x.toNatClampNeg ≤ R.slots) (hd : decode cc pc = .ok (.anewarray ix, 3))
    (hk : XSim p l e R s m args below meth c (cells + 1) (slots + x.toNatClampNeg) Q G z (N0 + 1) nL (pc + 3) lv (.ref N0 :: st) (xhs h N0 (xref d x.toNatClampNeg (fun _ => none))) r) :
    XSim p l e R s m args below meth c cells slots Q G z N0 nL pc lv (.int x :: st) h r := by
  intro rv h' hr H locs ls hI hl
  obtain ⟨hd35, q, hq, w1⟩ := ho
  have hn : ¬ x < 0 := Int32.not_lt.mpr hx0.1
  have hAO : va_AO q.1 s := by
    rcases hd35 with rfl | rfl <;> cases hq
    · exact hI.2.2.2.2.2.2.1
    · exact hI.2.2.2.2.2.2.2
  refine W.anew hx hb hown (hts _ w1) (va_AO.use hAO) rfl hd rfl hn (Nat.le_trans (Nat.mul_le_mul_right 4 hx0.2) (Nat.le_of_ble_eq_true rfl)) hR.1 hR.2 fun cA kA comp f1 f2 f3 f4 => ?_
  have hAr : ArrOfT s cA (.object q.1) := fun N z => ⟨(fun k h => by cases h), kA, f2, comp, f3⟩
  rw [hI.2.1]
  refine hk rv h' hr _ locs ls (hI.push (by rw [Array.size_push, hI.2.1]) (fun b hb => by rw [Array.getElem?_push, if_neg (by rw [hI.2.1]; omega)]) fun hz => ⟨Nat.lt_of_le_of_lt hx0.2 (Nat.le_of_ble_eq_true rfl), hz, q, cA, hq, hAr, ⟨kA, comp, f2, f3, f4, f1⟩, ?_⟩) hl
  rw [← hI.2.1, Array.getElem?_push_size, ← arrV_new]
  rfl
theorem XSim_obj (hx : p.tables.exec = Jvm.exec) (hb : c.code = cc) (hml : c.maxLocals = nL) (hown : s.vm.findClass own = some m.cls) (hts : ∀ w ∈ xw, w.before args s = true) {ix a : Nat} (ho : XObj own ix R.frames R.locals) (hst : (st.map fun v => v.category).sum ≤ 8) (hd : decode cc pc = .ok (.invokespecial ix, 3))
    (hk : XSim p l e R s m args below meth c cells slots Q G z N0 nL (pc + 3) lv st h r) :
    XSim p l e R s m args below meth c cells slots Q G z N0 nL pc lv (.ref a :: st) h r := by
  intro rv h' hr H locs ls hI hl
  obtain ⟨w1, w2, w3, w4, w5⟩ := ho
  exact W.objInit hx hb hown (hts _ w1) (hts _ w2) (hts _ w3) rfl (hl.1.trans hml.symm) rfl hd w4 (by show 2 * 0 + _ + 12 ≤ _; omega) (hk rv h' hr H locs ls hI hl)
theorem XSim_putF (hx : p.tables.exec = Jvm.exec) (hb : c.code = cc) (hK : XKn G s) (hown : s.vm.findClass own = some m.cls) (hts : ∀ w ∈ xw, w.before args s = true) (hin2 : meth.name = "<init>") {a ix d x b : Nat} {q : vw_C} (hq : vwCl[d]? = some q) (hxq : x < q.2.2) (hln : Cond.fieldLink own ix (q.2.1 x).1 (q.2.1 x).2.1 (q.2.1 x).2.2.1 ∈ xw) (hfin : (q.2.1 x).2.2.2 = true) (hdecl : (q.2.1 x).1 = own)
    {ty : FieldType} (hpd : parseFieldDescriptor (q.2.1 x).2.2.1 = some ty) (hn : narrow ty (.ref b) = .ref b) (hfit : fits ty (.ref b) = true) (hd : decode cc pc = .ok (.putfield ix, 3)) {k : XH → XR}
    (hk : ∀ h, XSim p l e R s m args below meth c cells slots Q G z N0 nL (pc + 3) lv st h (k h)) :
    XSim p l e R s m args below meth c cells slots Q G z N0 nL pc lv (.ref b :: .ref a :: st) h (pV h a d x (.ref b) k) := by
  unfold pV
  split
  · rename_i d2 F ha
    refine XSim.ite (fun e1 => ?_) (fun _ => XSim.none)
    subst e1
    refine XSim.write (st' := st) (nx := pc + 3) (h1 := xhs h a (xobj d2 (updV F x (.ref b)))) rfl (hk _) fun Z H locs ls hI kk => ?_
    obtain ⟨hz, q', hq', cell, c1, c2, c3, c4⟩ := hI.obj ha
    cases hq.symm.trans hq'
    obtain ⟨hin, hnm, tyq, hty⟩ := xcls d2 q hq
    have hap := va_apart (own := own) hts hin tyq hty hnm (xTy hK) hq
    obtain ⟨hS, hfc, kC, hkC, hkind⟩ := hK.1.1 d2 _ hq
    obtain ⟨cf, kf, fi, f, hi, hsl⟩ := hS x hxq
    have hlay := hts _ (hin _ (u_in_lay hxq))
    unfold u_lay at hlay
    rw [if_pos hfin] at hlay
    have hst := (u_facts hfc hkC (u_lays hts hin hxq) hi).1
    have hcf : m.cls = cf := by
      obtain ⟨_, _, c', _, _, _, -, -, hf', -, -, -, hown2, -⟩ := Cond.laysFinal_spec hlay
      have e1 : c' = cf := by have := hi.symm.trans hf'; simp at this; exact this.1.symm
      rw [hdecl] at hown2
      rw [← e1]; exact Option.some.inj (hown.symm.trans hown2)
    have h6 := u_fits hfc hkC hkind (Or.inr hlay) hi hpd hn hfit
    refine W.putFinK hx hb hown (hts _ hln) hi hst hcf hin2 (by rw [c2]; exact h6) c1 c3 (by rw [hsl]; exact k2_hasslot (c4 x hxq)) rfl rfl hd fun H' e1 e2 e3 => ?_
    rw [hsl] at e1 ⊢
    exact kk H' _ (hI.set hz ⟨hz, _, hq, t_OB.to (V := updV F x (.ref b)) ⟨_, e1, c2, c3, t_set c4 hap hxq (.ref b)⟩ (fun j _ => rfl)⟩ e2 e3)
  · exact XSim.none
theorem XPA_blind {a N : Nat} : FrameBlind (XPA G z a h N) := fun av U g mk q => ⟨q.1, q.2.1.moved (u := U) (U := U.calling g mk av) (Vm.Alike.refl U.vm), q.2.2.1.moved (u := U) (U := U.calling g mk av) (Vm.Alike.refl U.vm), XStr.same (s := U) (U := U.calling g mk av) rfl q.2.2.2.1, q.2.2.2.2⟩
theorem XSim_cons (hx : p.tables.exec = Jvm.exec) (hb : c.code = cc) (hml : c.maxLocals = nL) (hK : XKn G s) (hown : s.vm.findClass own = some m.cls) (hts : ∀ w ∈ xw, w.before args s = true) {ix a d mc1 ms1 : Nat} {f : Nat → XH → Nat → XR} {k : XH → XR} (ho : XCons own ix R.frames R.locals (mc1, ms1, d, f)) (hR : cells + mc1 ≤ R.cells ∧ slots + ms1 ≤ R.slots) (hst : (st.map fun v => v.category).sum ≤ 8) (hd : decode cc pc = .ok (.invokespecial ix, 3))
    (hk : ∀ h, XSim p l e R s m args below meth c (cells + mc1) (slots + ms1) Q G z (N0 + mc1) nL (pc + 3) lv st h (k h)) :
    XSim p l e R s m args below meth c cells slots Q G z N0 nL pc lv (.ref a :: st) h (bV (f a h N0) k) := by
  obtain ⟨y, bytes, maxL, fr1, lo1, q, hS, hq, h1, h2, h3, h4, h5, h7, hy1, h8, h9, h10⟩ := ho
  intro rv' h' hr H locs ls hI hl
  unfold bV at hr
  split at hr
  · rename_i h1' hf
    have hM := hS l G z a h N0 h1' hf
    have hk := hk h1' rv' h' hr
    have hPre : PreS s H (XPA G z a h N0) [.ref a] := ⟨XPA_blind, fun U hU hW => ⟨rfl, by rw [hU]; exact hI.1.moved hW.alike, hK.moved hW.alike, hI.2.2.2.2.warm hW, by rw [hU]; exact hI.2.1⟩⟩
    have hrun : va_Run p l e R s m args below meth c H locs cells slots mc1 ms1 (F0 m pc ls (.ref a :: st)) st (XQA G z mc1 h1' #[.ref a]) (fun q => z ≤ q) := by
      rcases h4 with h4 | ⟨host, h4⟩
      · have cb : CallB R s args own ix y bytes maxL none (.code y bytes maxL none :: xw) (xrmA fr1 lo1 mc1 ms1) mc1 ms1 0 :=
          callB_of 0 hts (xGood h3) rfl rfl rfl (hts _ h7) (hts _ h4) ⟨h8, h9, h10⟩ ⟨h1, h2⟩
        exact va_runI (As := []) ⟨hx, hb, hml, hown, hts⟩ hM ⟨cb, hy1, hts _ h5⟩ hPre rfl rfl hl.1 rfl (by show 2 * 0 + _ ≤ 8; omega) hd hR
      · have hc : Cond.code y bytes maxL none ∈ (.code y bytes maxL none :: xw) := List.mem_cons_self
        have cb : va_CN R s args own ix y host bytes maxL none (.code y bytes maxL none :: xw) (xrmA fr1 lo1 mc1 ms1) mc1 ms1 0 :=
          ⟨⟨rfl, rfl, h1, h2, pay_in hts (xGood h3), hc⟩, hts _ h3, hts _ h7, ⟨h8, h9⟩, fun sig hsg => by rw [hsg] at h10; exact (Option.some.inj h10).symm, va_Nw.use rfl (hI.2.2.2.2.2.1 _ h4)⟩
        exact va_runIN (As := []) ⟨hx, hb, hml, hown, hts⟩ hM ⟨cb, hy1, hts _ h5⟩ hPre rfl rfl hl.1 rfl (by show 2 * 0 + _ ≤ 8; omega) hd hR
    intro T hT X
    obtain ⟨v, st₀, t, T', L, h0, X', hL, f1, f2, ⟨g1, g2, g3, g4, g5⟩, stp⟩ := hrun T hT X
    cases g1
    have hW : s.WarmedH t.vm := by rw [← f2]; exact X'.warmed
    have hvm : t.vm.Alike s.vm := hW.alike.symm
    have hI1 : XI G z (N0 + mc1) s h1' T'.heap (locs ++ L) := by
      refine ⟨by rw [f1]; exact g2.moved hvm, by rw [f1, g3, h0, hI.2.1], fun q hq => by rw [f1, g4 q hq, h0]; exact hI.2.2.1 q hq, fun q hq => ?_, fun k q hq => ?_, hI.2.2.2.2.2⟩
      · rcases List.mem_append.mp hq with h | h
        · exact hI.2.2.2.1 q h
        · exact hL q h
      · obtain ⟨a0, i1, i2⟩ := hI.2.2.2.2.1 k q hq
        obtain ⟨a1, i3, i4⟩ := g5.1 k q hq
        have i5 := (i2.warm hW).2.symm.trans i4.2
        cases i5
        exact ⟨a0, i3, i2⟩
    obtain ⟨t2, a1, b1⟩ := hk T'.heap (locs ++ L) ls hI1 hl T' rfl X'
    exact ⟨t2, stp t2 a1, b1⟩
  · cases hr
/-- a final field of a class, set in its constructor -/
def XFin (own : String) (ix d x : Nat) : Prop := ∃ q, vwCl[d]? = some q ∧ x < q.2.2 ∧ Cond.fieldLink own ix (q.2.1 x).1 (q.2.1 x).2.1 (q.2.1 x).2.2.1 ∈ xw ∧ (q.2.1 x).2.2.2 = true ∧ (q.2.1 x).1 = own ∧ ∃ ty, parseFieldDescriptor (q.2.1 x).2.2.1 = some ty ∧ (∀ b, narrow ty (.ref b) = .ref b) ∧ ∀ b, fits ty (.ref b) = true
def xokA (pc : Nat) (w : XRow) : Bool := match w.1 with
  | .new i => w.2.1 == pc + 3 && w.2.2.1 == i
  | .newarray _ => w.2.1 == pc + 2
  | .anewarray i => w.2.1 == pc + 3 && w.2.2.1 == i
  | .invokespecial i => w.2.1 == pc + 3 && w.2.2.1 == i
  | .putfield i => w.2.1 == pc + 3 && w.2.2.1 == i
  | _ => w.2.1 == pc + 1
def XAOK (A : XAx) (cc : ByteArray) (own : String) (fr lo : Nat) : Prop :=
  (∀ pc w, xfind A.1 pc = some w → decode cc pc = .ok (w.1, w.2.1 - pc) ∧ xokA pc w = true ∧ (w.2.2.2.1 = .int 7 → ∀ ix, w.1 = .invokespecial ix → XObj own ix fr lo)) ∧
  (∀ ix d k, xfind A.2.1 ix = some (d, k) → XNew own ix d k) ∧ (∀ ix d, xfind A.2.2.1 ix = some d → XAnw own ix d) ∧ (∀ ix o, xfind A.2.2.2.1 ix = some o → XCons own ix fr lo o) ∧ ∀ ix d x, xfind A.2.2.2.2 ix = some (d, x) → XFin own ix d x
/-- the end of a constructor -/
def XHretA (p : Program) (l : Launch) (e : Env) (R : Room) (s : State) (m : MethodId) (args : Array Value) (below : List Frame) (meth : Method) (c : Code) (mc ms : Nat) (Q : Option Value → XH → State → Prop) (G : XG) (z N0 nL : Nat) (cc : ByteArray) : Prop := ∀ pc (h : XH), decode cc pc = .ok (.return_, 1) → XSim p l e R s m args below meth c mc ms Q G z (N0 + mc) nL pc [] [] h (rV h)
theorem xallo_sound (hx : p.tables.exec = Jvm.exec) (hb : c.code = cc) (hml : c.maxLocals = nL) (hK : XKn G s) (hown : s.vm.findClass own = some m.cls) (hts : ∀ w ∈ xw, w.before args s = true) {mc ms : Nat} (hR : mc ≤ R.cells ∧ ms ≤ R.slots) (hin2 : meth.name = "<init>")
    {A : XAx} (hA : XAOK A cc own R.frames R.locals) (hret : XHretA p l e R s m args below meth c mc ms Q G z N0 nL cc) {w : XRow} (hw : xfind A.1 pc = some w) {K : Nat → Nat → XK} {c0 n0 : Nat}
    (hk : ∀ c1 n1 pc lv st h, XSim p l e R s m args below meth c c1 n1 Q G z (N0 + c1) nL pc lv st h (K c1 n1 pc lv st h)) :
    XSim p l e R s m args below meth c c0 n0 Q G z (N0 + c0) nL pc lv st h (xallo A N0 mc ms c0 n0 w lv st h K) := by
  obtain ⟨hdec, hok, hobj⟩ := hA.1 pc w hw
  obtain ⟨i, nx, ix, val, sw⟩ := w
  have hd : ∀ n, nx = pc + n → decode cc pc = .ok (i, n) := fun n hn => by
    rw [hdec]
    show Except.ok (i, nx - pc) = _
    rw [hn, Nat.add_sub_cancel_left]
  dsimp only at hobj
  cases i <;> simp only [xallo] <;> try exact XSim.none
  case anewarray k =>
    simp only [xokA, Bool.and_eq_true, beq_iff_eq] at hok
    obtain ⟨h1, rfl⟩ := hok
    split
    · rename_i d x rest hf
      rw [h1]
      refine XSim.ite (fun q => ?_) (fun _ => XSim.none)
      refine XSim_newref hx hb hown hts (hA.2.2.1 _ _ hf) q.1 ⟨by omega, by omega⟩ (hd 3 h1) ?_
      exact hk _ _ _ _ _ _
    · exact XSim.none
  case invokespecial k =>
    simp only [xokA, Bool.and_eq_true, beq_iff_eq] at hok
    obtain ⟨h1, rfl⟩ := hok
    split
    · rename_i a rest
      rw [h1]
      refine XSim.ite (fun q => ?_) (fun _ => XSim.none)
      refine XSim.ite (fun e7 => ?_) (fun _ => ?_)
      · exact XSim_obj hx hb hml hown hts (hobj e7 _ rfl) q (hd 3 h1) (hk _ _ _ _ _ _)
      · split
        · rename_i mc1 ms1 d f hf
          refine XSim.ite (fun q2 => ?_) (fun _ => XSim.none)
          refine XSim_cons hx hb hml hK hown hts (hA.2.2.2.1 _ _ hf) ⟨by omega, by omega⟩ q (hd 3 h1) (fun h => ?_)
          rw [Nat.add_assoc]
          exact hk _ _ _ _ _ _
        · exact XSim.none
    · exact XSim.none
  case new k =>
    simp only [xokA, Bool.and_eq_true, beq_iff_eq] at hok
    obtain ⟨h1, rfl⟩ := hok
    split
    · rename_i d k hf
      rw [h1]
      refine XSim.ite (fun q => ?_) (fun _ => XSim.none)
      refine XSim_new hx hb hK hown hts (hA.2.1 _ _ _ hf) ⟨by omega, by omega⟩ (hd 3 h1) ?_
      exact hk _ _ _ _ _ _
    · exact XSim.none
  case newarray t =>
    simp only [xokA, beq_iff_eq] at hok
    split
    · rename_i x rest tg ht
      rw [hok]
      refine XSim.ite (fun q => ?_) (fun _ => XSim.none)
      refine XSim_newarr hx hb hK hts ht q.1 ⟨by omega, by omega⟩ (hd 2 hok) ?_
      exact hk _ _ _ _ _ _
    · exact XSim.none
  case putfield k =>
    simp only [xokA, Bool.and_eq_true, beq_iff_eq] at hok
    obtain ⟨h1, rfl⟩ := hok
    split
    · rename_i d x v a rest hf
      rw [h1]
      obtain ⟨q, q1, q2, q3, q4, q5, ty, q6, q7, q8⟩ := hA.2.2.2.2 _ _ _ hf
      exact XSim_putF hx hb hK hown hts hin2 q1 q2 q3 q4 q5 q6 (q7 _) (q8 _) (hd 3 h1) (fun h => hk _ _ _ _ _ _)
    · exact XSim.none
  case return_ =>
    simp only [xokA, beq_iff_eq] at hok
    refine XSim.ite (fun q => ?_) (fun _ => XSim.none)
    obtain ⟨rfl, rfl⟩ := q
    split
    · exact (hret pc h (hd 1 hok)).sub fun ls hl => ⟨hl.1, hl.2.1, fun q hq => by cases hq⟩
    · exact XSim.none
theorem xrunA_sound (hx : p.tables.exec = Jvm.exec) (hb : c.code = cc) (hml : c.maxLocals = nL) (hK : XKn G s) (hown : s.vm.findClass own = some m.cls) (hts : ∀ w ∈ xw, w.before args s = true) {mc ms : Nat} (hR : mc ≤ R.cells ∧ ms ≤ R.slots) (hin2 : meth.name = "<init>")
    {A : XAx} (hA : XAOK A cc own R.frames R.locals) (hret : XHretA p l e R s m args below meth c mc ms Q G z N0 nL cc) {B : XB} (hB : XOK B cc nL own R.frames R.locals) (hrk : B.2.2.2.1 = 9) :
    ∀ k c0 n0 pc lv st h, XSim p l e R s m args below meth c c0 n0 Q G z (N0 + c0) nL pc lv st h (xrunA B A N0 mc ms k c0 n0 pc lv st h) := by
  intro k
  induction k with
  | zero => intro c0 n0 pc lv st h; exact XSim.none
  | succ k ih =>
    intro c0 n0 pc lv st h
    simp only [xrunA]
    split
    · rename_i w hw
      exact xallo_sound hx hb hml hK hown hts hR hin2 hA hret hw ih
    · split
      · rename_i w hw
        refine XSim.ite (fun q => ?_) (fun _ => XSim.none)
        refine xstep_sound hx hb hml hK hown hts ⟨by omega, by omega⟩ hB ?_ hw (ih c0 n0)
        intro pc i st h rv h' _ hr
        rw [hrk] at hr
        unfold xret at hr
        split at hr <;> simp at hr
      · exact XSim.none
end XSA2
theorem XSA.of {y : MethodName} {cc : ByteArray} {nL : Nat} {fr lo mc ms : Nat} {own : String} {B : XB} {A : XAx} {k : Nat} {f : Nat → XH → Nat → XR} (hy : plainName y.cls = true) (ho : y.cls = own) (hi : y.name = "<init>") (hnl : 1 ≤ nL) (hA : XAOK A cc own fr lo) (hB : XOK B cc nL own fr lo) (hrk : B.2.2.2.1 = 9)
    (hf : ∀ a h N, f a h N = xrunA B A N mc ms k 0 0 0 [(0, .ref a)] [] h) : XSA y cc nL fr lo mc ms f := by
  intro l G z a h N h' hr
  subst ho
  refine Met.ofW (cc := cc) (maxL := nL) (ret := none) hy rfl ?_
  intro p e s m args below meth c s₁ B0 hml hP
  obtain ⟨rfl, hrel, hK, hstr, rfl⟩ := hP
  have hts := atoms_spec (ws := Cond.code y cc nL none :: xw) B0.pre
  have hown : s.vm.findClass y.cls = some m.cls := findClass_of_methodNamed B0.named
  have hnm : meth.name = "<init>" := (name_of_methodNamed B0.named B0.method).1.trans hi
  have hret : XHretA p l e (xrmA fr lo mc ms) s m #[.ref a] below meth c mc ms (fun rv h' => MQ below (XQA G z mc h') #[.ref a] s mc ms (fun q => z ≤ q)) G z s.heap.size nL cc := by
    intro pc h1 hd rv h2 hr2 H locs ls hI hl
    cases hr2
    exact W.vret B0.exec B0.bytes B0.returns (fun t ht hW => ⟨rfl, by rw [ht]; exact hI.1.moved hW.alike, by rw [ht]; exact hI.2.1, fun q hq => by rw [ht]; exact hI.2.2.1 q hq, hI.2.2.2.2.warm hW⟩) hI.2.2.2.1 hd B0.notSynchronized
  rw [hf] at hr
  have k1 := xrunA_sound (N0 := s.heap.size) (R := xrmA fr lo mc ms) B0.exec B0.bytes hml hK hown (fun w hw => hts w (List.mem_cons_of_mem _ hw)) ⟨Nat.le_refl _, Nat.le_refl _⟩ hnm hA hret hB hrk k 0 0 0 [(0, .ref a)] [] h none h' hr
  have hl := lv_entry [Value.ref a] (n := nL) (by show 1 ≤ nL; exact hnl)
  rw [show (#[Value.ref a] : Array Value) = ([Value.ref a] : List Value).toArray from rfl, lg_entry_eq]
  exact k1 s.heap [] _ ⟨hrel, rfl, fun _ _ => rfl, fun q hq => (by cases hq), hstr⟩ hl
theorem xaok_of {rows : List (Nat × XRow)} {nws : List (Nat × (Nat × Nat))} {aws : List (Nat × Nat)} {cns : List (Nat × XCn)} {fns : List (Nat × (Nat × Nat))} {cc : ByteArray} {own : String} {fr lo : Nat} {objs : List Nat}
    (h : rows.all (fun q => decide (decode cc q.1 = .ok (q.2.1, q.2.2.1 - q.1)) && xokA q.1 q.2 && (match q.2.1 with
      | .invokespecial ix => !decide (q.2.2.2.2.1 = .int 7) || decide (ix ∈ objs)
      | _ => true)) = true) (hob : ∀ ix ∈ objs, XObj own ix fr lo) (hn : ∀ q ∈ nws, XNew own q.1 q.2.1 q.2.2) (ha : ∀ q ∈ aws, XAnw own q.1 q.2) (hc : ∀ q ∈ cns, XCons own q.1 fr lo q.2) (hf : ∀ q ∈ fns, XFin own q.1 q.2.1 q.2.2) : XAOK (rows, nws, aws, cns, fns) cc own fr lo := by
  refine ⟨fun pc w hw => ?_, fun ix d k hh => hn _ (xfind_mem hh), fun ix d hh => ha _ (xfind_mem hh), fun ix o hh => hc _ (xfind_mem hh), fun ix d x hh => hf _ (xfind_mem hh)⟩
  have h1 := List.all_eq_true.mp h _ (xfind_mem hw)
  simp only [Bool.and_eq_true, decide_eq_true_eq] at h1
  obtain ⟨⟨h1, h2⟩, h3⟩ := h1
  refine ⟨h1, h2, fun h7 ix hix => ?_⟩
  obtain ⟨i, nx, ix2, val, sw⟩ := w
  dsimp only at hix h7 h3
  subst hix
  simp only [h7] at h3
  exact hob ix (by simpa using h3)
