def XP (G : XG) (z : Nat) (vs : List Value) (h : XH) : Array Value → State → Prop := fun av U => av = vs.toArray ∧ XRel G z h U U.heap ∧ XKn G U ∧ XStr h.1.1 U
def XQ (G : XG) (z : Nat) (rv : Option Value) (h : XH) : Array Value → State → Outcome → State → Prop := fun _ st o t => o = .returned rv ∧ XRel G z h t t.heap ∧ t.heap.size = st.heap.size ∧ (∀ q : Nat, q < z → t.heap[q]? = st.heap[q]?) ∧ XStr h.1.1 t
/-- a method is what its function says -/
def XS (y : MethodName) (bytes : ByteArray) (maxL : Nat) (ret : Option FieldType) (rm : Room) (f : List Value → XH → XR) : Prop := ∀ (l : Launch) (G : XG) (z : Nat) (vs : List Value) (h : XH) (rv : Option Value) (h' : XH), f vs h = some (rv, h') → Met l y (.code y bytes maxL ret :: xw) rm (XP G z vs h) (XQ G z rv h') 0 0 (fun q => z ≤ q)
abbrev xrm (fr lo : Nat) : Room := { frames := fr, cells := 0, slots := 0, locals := lo }
def XVirt (own : String) (ix : Nat) (fr lo na d : Nat) (f : List Value → XH → XR) : Prop := ∃ (y : MethodName) (bytes : ByteArray) (maxL : Nat) (ret : Option FieldType) (fr1 lo1 : Nat) (q : vw_C), XS y bytes maxL ret (xrm fr1 lo1) f ∧ xcl[d]? = some q ∧ y.cls = q.1 ∧ fr1 + 1 ≤ fr ∧ 8 + (maxL + 11) + lo1 ≤ lo ∧ Cond.code y bytes maxL ret ∈ xw ∧ Cond.methodLink own ix y ∈ xw ∧ Cond.instanceMethod y ∈ xw ∧ Cond.selects q.1 y y ∈ xw ∧ Cond.initialized y.cls ∈ xw ∧
  (y.cls ≠ "java/lang/invoke/MethodHandle" ∧ y.cls ≠ "java/lang/invoke/VarHandle" ∧ (parseMethodDescriptor y.desc).map (fun d => d.parameters.length + 1) = some na)
def XStat (own : String) (ix : Nat) (fr lo na : Nat) (f : List Value → XH → XR) : Prop := ∃ (y : MethodName) (bytes : ByteArray) (maxL : Nat) (ret : Option FieldType) (fr1 lo1 : Nat), XS y bytes maxL ret (xrm fr1 lo1) f ∧ fr1 + 1 ≤ fr ∧ 8 + (maxL + 11) + lo1 ≤ lo ∧ Cond.code y bytes maxL ret ∈ xw ∧ (Cond.methodLink own ix y ∈ xw ∨ ∃ host, Cond.methodLinkNest own ix y host ∈ xnw) ∧ Cond.static y ∈ xw ∧ Cond.initialized y.cls ∈ xw ∧
  (y.cls ≠ "java/lang/invoke/MethodHandle" ∧ y.cls ≠ "java/lang/invoke/VarHandle" ∧ (parseMethodDescriptor y.desc).map (fun d => d.parameters.length) = some na)
theorem bK_some {kd : Nat} {X : XR} {K : List Value → XH → XR} {r : Option Value × XH} (h : bK kd X K = some r) : ∃ rv h1, X = some (rv, h1) ∧ K rv.toList h1 = some r := by
  unfold bK at h
  split at h
  · unfold bV at h
    split at h
    · exact ⟨_, _, rfl, h⟩
    · cases h
  · unfold bI at h
    split at h
    · exact ⟨_, _, rfl, h⟩
    · cases h
  · unfold bF at h
    split at h
    · exact ⟨_, _, rfl, h⟩
    · cases h
  · unfold bD at h
    split at h
    · exact ⟨_, _, rfl, h⟩
    · cases h
  · cases h
theorem xGood {y : MethodName} {bytes : ByteArray} {maxL : Nat} {ret : Option FieldType} (h : Cond.code y bytes maxL ret ∈ xw) : GoodIn xw (.code y bytes maxL ret :: xw) := fun w hw => by
  rcases List.mem_cons.mp hw with rfl | hw
  · exact ⟨h, xw_good h⟩
  · exact ⟨hw, xw_good hw⟩
section XS3
variable {p : Program} {l : Launch} {e : Env} {R : Room} {s : State} {m : MethodId} {args : Array Value} {below : List Frame} {meth : Method} {c : Code} {cells slots : Nat} {Q : Option Value → XH → State → Prop} {G : XG} {z N0 nL : Nat}
variable {cc : ByteArray} {own : String} {pc nx : Nat} {lv : XLV} {st : List Value} {h : XH} {r : XR}
theorem XP_blind {vs : List Value} : FrameBlind (XP G z vs h) := fun a U g mk q => ⟨q.1, q.2.1.moved (u := U) (U := U.calling g mk a) (Vm.Alike.refl U.vm), q.2.2.1.moved (u := U) (U := U.calling g mk a) (Vm.Alike.refl U.vm), XStr.same (s := U) (U := U.calling g mk a) rfl q.2.2.2⟩
theorem XP_at {H : Heap} {locs : List Loc} {vs : List Value} (hK : XKn G s) (hI : XI G z N0 s h H locs) : ∀ U : State, U.heap = H → s.WarmedH U.vm → XP G z vs h vs.toArray U := fun U hU hW => ⟨rfl, by rw [hU]; exact hI.1.moved hW.alike, hK.moved hW.alike, hI.2.2.2.2.warm hW⟩
/-- behind a call -/
theorem XSim_run {rest : List Value} {vs : List Value} {f : List Value → XH → XR} {kd : Nat} {k : List Value → XH → XR} (hR : cells ≤ R.cells ∧ slots ≤ R.slots) 
    (hk : ∀ rs h1, XSim p l e R s m args below meth c cells slots Q G z N0 nL (pc + 3) lv (rs ++ rest) h1 (k rs h1))
    (hf : ∀ rv h1, f vs h = some (rv, h1) → ∀ (H : Heap) (locs : List Loc) (ls : Array Slot), XI G z N0 s h H locs → ls.size = nL → ∃ a : Array Value, va_Run p l e R s m args below meth c H locs cells slots 0 0 (F0 m pc ls st) rest (XQ G z rv h1 a) (fun q => z ≤ q)) :
    XSim p l e R s m args below meth c cells slots Q G z N0 nL pc lv st h (bK kd (f vs h) k) := by
  intro rv' h' hr H locs ls hI hl
  obtain ⟨rv, h1, e1, e2⟩ := bK_some hr
  obtain ⟨a, hrun⟩ := hf rv h1 e1 H locs ls hI hl.1
  have hk := hk _ h1 rv' h' e2
  intro T hT X
  obtain ⟨v, st₀, t, T', L, h0, X', hL, f1, f2, ⟨g1, g2, g3, g4, g5⟩, stp⟩ := hrun T hT X
  cases g1
  have hW : s.WarmedH t.vm := by rw [← f2]; exact X'.warmed
  have hvm : t.vm.Alike s.vm := hW.alike.symm
  have hI1 : XI G z N0 s h1 T'.heap (locs ++ L) := by
    refine ⟨by rw [f1]; exact g2.moved hvm, by rw [f1, g3, h0]; exact hI.2.1, fun q hq => by rw [f1, g4 q hq, h0]; exact hI.2.2.1 q hq, fun q hq => ?_, fun k q hq => ?_, hI.2.2.2.2.2⟩
    · rcases List.mem_append.mp hq with h | h
      · exact hI.2.2.2.1 q h
      · exact hL q h
    · obtain ⟨a0, i1, i2⟩ := hI.2.2.2.2.1 k q hq
      obtain ⟨a1, i3, i4⟩ := g5.1 k q hq
      have i5 := (i2.warm hW).2.symm.trans i4.2
      cases i5
      exact ⟨a0, i3, i2⟩
  obtain ⟨t2, a1, b1⟩ := hk T'.heap (locs ++ L) ls hI1 hl T' rfl X'
  exact ⟨t2, stp t2 a1, b1⟩
theorem XSim_virt (hx : p.tables.exec = Jvm.exec) (hb : c.code = cc) (hml : c.maxLocals = nL) (hK : XKn G s) (hown : s.vm.findClass own = some m.cls) (hts : ∀ w ∈ xw, w.before args s = true) (hR : cells ≤ R.cells ∧ slots ≤ R.slots) {ix na kd d a : Nat} {as rest : List Value} {f : List Value → XH → XR} {k : List Value → XH → XR}
    (ho : XVirt own ix R.frames R.locals na d f) (hna : as.length + 1 = na) (hst : st = as.reverse ++ .ref a :: rest) (hsum : (rest.map fun v => v.category).sum ≤ 8) (hd : decode cc pc = .ok (.invokevirtual ix, 3))
    (hk : ∀ rs h1, XSim p l e R s m args below meth c cells slots Q G z N0 nL (pc + 3) lv (rs ++ rest) h1 (k rs h1)) :
    XSim p l e R s m args below meth c cells slots Q G z N0 nL pc lv st h (isO h a d (bK kd (f (.ref a :: as) h) k)) := by
  have key : ∀ F, (∀ H locs, XI G z N0 s h H locs → XOb G s H a d F) → XSim p l e R s m args below meth c cells slots Q G z N0 nL pc lv st h (bK kd (f (.ref a :: as) h) k) := by
    intro F hF
    obtain ⟨y, bytes, maxL, ret, fr1, lo1, q, hS, hq, hy, h1, h2, h3, h4, h5, h6, h7, h8, h9, h10⟩ := ho
    refine XSim_run hR hk fun rv h1' hf H locs ls hI hls => ⟨(Value.ref a :: as).toArray, ?_⟩
    have hn : (parseMethodDescriptor y.desc).map (fun d => d.parameters.length) = some as.length := by
      cases hp : parseMethodDescriptor y.desc with
      | none => rw [hp] at h10; cases h10
      | some sg =>
        rw [hp] at h10
        have : sg.parameters.length + 1 = na := Option.some.inj h10
        show some sg.parameters.length = _
        congr 1
        omega
    obtain ⟨q', cell, hq', c1, -, c3, c2, -⟩ := hF H locs hI
    cases hq.symm.trans hq'
    have cb : CallB R s args own ix y bytes maxL ret (.code y bytes maxL ret :: xw) (xrm fr1 lo1) 0 0 as.length :=
      callB_of as.length hts (xGood h3) rfl rfl rfl (hts _ h7) (hts _ h4) ⟨h8, h9, hn⟩ ⟨h1, h2⟩
    exact va_runV (C := q.1) ⟨hx, hb, hml, hown, hts⟩ (hS l G z _ _ _ _ hf) ⟨cb, hts _ h5, hts _ h6⟩ ⟨XP_blind, ⟨cell, c1, c3, c2⟩, XP_at hK hI⟩ rfl rfl hls hst (by show 2 * 0 + _ ≤ 8; omega) hd ⟨by omega, by omega⟩
  exact XSim_ob fun F hv => key F (vO_ob hK hv)
theorem XSim_stat (hx : p.tables.exec = Jvm.exec) (hb : c.code = cc) (hml : c.maxLocals = nL) (hK : XKn G s) (hown : s.vm.findClass own = some m.cls) (hts : ∀ w ∈ xw, w.before args s = true) (hR : cells ≤ R.cells ∧ slots ≤ R.slots) {ix na kd : Nat} {as rest : List Value} {f : List Value → XH → XR} {k : List Value → XH → XR}
    (ho : XStat own ix R.frames R.locals na f) (hna : as.length = na) (hst : st = as.reverse ++ rest) (hsum : (rest.map fun v => v.category).sum ≤ 8) (hd : decode cc pc = .ok (.invokestatic ix, 3))
    (hk : ∀ rs h1, XSim p l e R s m args below meth c cells slots Q G z N0 nL (pc + 3) lv (rs ++ rest) h1 (k rs h1)) :
    XSim p l e R s m args below meth c cells slots Q G z N0 nL pc lv st h (bK kd (f as h) k) := by
  obtain ⟨y, bytes, maxL, ret, fr1, lo1, hS, h1, h2, h3, h4, h5, h7, h8, h9, h10⟩ := ho
  refine XSim_run hR hk fun rv h1' hf H locs ls hI hls => ⟨as.toArray, ?_⟩
  subst hna
  rcases h4 with h4 | ⟨host, h4⟩
  · have cb : CallB R s args own ix y bytes maxL ret (.code y bytes maxL ret :: xw) (xrm fr1 lo1) 0 0 as.length :=
      callB_of as.length hts (xGood h3) rfl rfl rfl (hts _ h7) (hts _ h4) ⟨h8, h9, h10⟩ ⟨h1, h2⟩
    exact va_runS ⟨hx, hb, hml, hown, hts⟩ (hS l G z _ _ _ _ hf) ⟨cb, hts _ h5⟩ ⟨XP_blind, XP_at hK hI⟩ rfl rfl hls hst (by show 2 * 0 + _ ≤ 8; omega) hd ⟨by omega, by omega⟩
  · have hc : Cond.code y bytes maxL ret ∈ (.code y bytes maxL ret :: xw) := List.mem_cons_self
    have cb : va_CN R s args own ix y host bytes maxL ret (.code y bytes maxL ret :: xw) (xrm fr1 lo1) 0 0 as.length :=
      ⟨⟨rfl, rfl, h1, h2, pay_in hts (xGood h3), hc⟩, hts _ h3, hts _ h7, ⟨h8, h9⟩, fun sig hsg => by rw [hsg] at h10; exact (Option.some.inj h10).symm, va_Nw.use rfl (hI.2.2.2.2.2.1 _ h4)⟩
    exact va_runSN ⟨hx, hb, hml, hown, hts⟩ (hS l G z _ _ _ _ hf) ⟨cb, hts _ h5, trivial⟩ ⟨XP_blind, XP_at hK hI⟩ rfl rfl hls hst (by show 2 * 0 + _ ≤ 8; omega) hd ⟨by omega, by omega⟩
end XS3
