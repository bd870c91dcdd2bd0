section XS5
variable {p : Program} {l : Launch} {e : Env} {R : Room} {s : State} {m : MethodId} {args : Array Value} {below : List Frame} {meth : Method} {c : Code} {cells slots : Nat} {Q : Option Value → XH → State → Prop} {G : XG} {z N0 nL : Nat}
variable {cc : ByteArray} {own : String} {pc nx : Nat} {lv : XLV} {st : List Value} {h : XH} {r : XR}
abbrev XHret (p : Program) (l : Launch) (e : Env) (R : Room) (s : State) (m : MethodId) (args : Array Value) (below : List Frame) (meth : Method) (c : Code) (cells slots : Nat) (Q : Option Value → XH → State → Prop) (G : XG) (z N0 nL : Nat) (cc : ByteArray) (rk : Nat) : Prop := ∀ pc i st (h : XH) rv h', decode cc pc = .ok (i, 1) → xret rk i st h = some (rv, h') → ∀ (H : Heap) (locs : List Loc) (ls : Array Slot), XI G z N0 s h H locs → W p l e R s m args below meth c H locs cells slots (Q rv h') (F0 m pc ls st)
theorem XSim_gI {a d x : Nat} {k : Int32 → XR} (hK : XKn G s) (hk : ∀ F v, (∀ H locs, XI G z N0 s h H locs → XOb G s H a d F) → F x = .int v → XSim p l e R s m args below meth c cells slots Q G z N0 nL pc lv st h (k v)) : XSim p l e R s m args below meth c cells slots Q G z N0 nL pc lv st h (gI h a d x k) := by
  refine XSim_ob fun v hv => ?_
  unfold vI at hv
  split at hv
  · rename_i F ha
    split at hv
    · rename_i w hw
      cases hv
      exact hk F _ (vO_ob hK ha) hw
    · cases hv
  · cases hv
theorem XSim_gR {a d x : Nat} {k : Nat → XR} (hK : XKn G s) (hk : ∀ F v, (∀ H locs, XI G z N0 s h H locs → XOb G s H a d F) → F x = .ref v → XSim p l e R s m args below meth c cells slots Q G z N0 nL pc lv st h (k v)) : XSim p l e R s m args below meth c cells slots Q G z N0 nL pc lv st h (gR h a d x k) := by
  refine XSim_ob fun v hv => ?_
  unfold vR at hv
  split at hv
  · rename_i F ha
    split at hv
    · rename_i w hw
      cases hv
      exact hk F _ (vO_ob hK ha) hw
    · cases hv
  · cases hv
theorem XSim_gL {a d x : Nat} {k : Int64 → XR} (hK : XKn G s) (hk : ∀ F v, (∀ H locs, XI G z N0 s h H locs → XOb G s H a d F) → F x = .long v → XSim p l e R s m args below meth c cells slots Q G z N0 nL pc lv st h (k v)) : XSim p l e R s m args below meth c cells slots Q G z N0 nL pc lv st h (gL h a d x k) := by
  refine XSim_ob fun v hv => ?_
  unfold vL at hv
  split at hv
  · rename_i F ha
    split at hv
    · rename_i w hw
      cases hv
      exact hk F _ (vO_ob hK ha) hw
    · cases hv
  · cases hv
theorem XSim_gS {x : Nat} {k : Nat → XR} (hk : ∀ v, h.1.1 x = .ref v → XSim p l e R s m args below meth c cells slots Q G z N0 nL pc lv st h (k v)) : XSim p l e R s m args below meth c cells slots Q G z N0 nL pc lv st h (gS h x k) := by
  unfold gS
  split
  · rename_i v hv
    exact hk v hv
  · exact XSim.none
theorem XSim_gT {x : Nat} {k : Int32 → XR} (hk : ∀ v, h.1.1 x = .int v → XSim p l e R s m args below meth c cells slots Q G z N0 nL pc lv st h (k v)) : XSim p l e R s m args below meth c cells slots Q G z N0 nL pc lv st h (gT h x k) := by
  unfold gT
  split
  · rename_i v hv
    exact hk v hv
  · exact XSim.none
set_option maxHeartbeats 4000000 in
set_option maxRecDepth 100000 in
theorem xstep_sound (hx : p.tables.exec = Jvm.exec) (hb : c.code = cc) (hml : c.maxLocals = nL) (hK : XKn G s) (hown : s.vm.findClass own = some m.cls) (hts : ∀ w ∈ xw, w.before args s = true) (hR : cells ≤ R.cells ∧ slots ≤ R.slots)
    {B : XB} (hB : XOK B cc nL own R.frames R.locals) (hret : XHret p l e R s m args below meth c cells slots Q G z N0 nL cc B.2.2.2.1)
    {w : XRow} (hw : xfind B.1 pc = some w) {K : XK} (hk : ∀ pc lv st h, XSim p l e R s m args below meth c cells slots Q G z N0 nL pc lv st h (K pc lv st h)) :
    XSim p l e R s m args below meth c cells slots Q G z N0 nL pc lv st h (xstep B w lv st h K) := by
  obtain ⟨hdec, hok, hcon, hcp⟩ := hB.1 pc w hw
  obtain ⟨i, nx, ix, val, sw⟩ := w
  have hd : ∀ n, nx = pc + n → decode cc pc = .ok (i, n) := fun n hn => by
    rw [hdec]
    show Except.ok (i, nx - pc) = _
    rw [hn, Nat.add_sub_cancel_left]
  dsimp only at hcon hcp
  have hdef : nx = pc + 1 → XSim p l e R s m args below meth c cells slots Q G z N0 nL pc lv st h (xret B.2.2.2.1 i st h) := fun hn rv h' hr H locs ls hI hl => hret pc i st h rv h' (hd 1 hn) hr H locs ls hI
  cases i
  case iload k =>
    simp only [xok, Bool.and_eq_true, beq_iff_eq] at hok
    obtain ⟨h1, h2⟩ := hok
    simp only [xstep]
    split
    · rename_i v hv
      subst h2
      rw [h1]
      exact (hk _ _ _ _).step fun Z H locs ls hl kk => lv_iload hx hb (hd 2 h1) (xlk_at hl hv) (kk ls hl)
    · exact XSim.none
  case iload_n k =>
    simp only [xok, Bool.and_eq_true, beq_iff_eq] at hok
    obtain ⟨h1, h2⟩ := hok
    simp only [xstep]
    split
    · rename_i v hv
      subst h2
      rw [h1]
      exact (hk _ _ _ _).step fun Z H locs ls hl kk => lv_iload_n hx hb (hd 1 h1) rfl (xlk_at hl hv) (kk ls hl)
    · exact XSim.none
  case aload k =>
    simp only [xok, Bool.and_eq_true, beq_iff_eq] at hok
    obtain ⟨h1, h2⟩ := hok
    simp only [xstep]
    split
    · rename_i v hv
      subst h2
      rw [h1]
      exact (hk _ _ _ _).step fun Z H locs ls hl kk => lv_aload hx hb (hd 2 h1) (xlk_at hl hv) (kk ls hl)
    · exact XSim.none
  case aload_n k =>
    simp only [xok, Bool.and_eq_true, beq_iff_eq] at hok
    obtain ⟨h1, h2⟩ := hok
    simp only [xstep]
    split
    · rename_i v hv
      subst h2
      rw [h1]
      exact (hk _ _ _ _).step fun Z H locs ls hl kk => lv_aload_n hx hb (hd 1 h1) rfl (xlk_at hl hv) (kk ls hl)
    · exact XSim.none
  case lload k =>
    simp only [xok, Bool.and_eq_true, beq_iff_eq] at hok
    obtain ⟨h1, h2⟩ := hok
    simp only [xstep]
    split
    · rename_i v hv
      subst h2
      rw [h1]
      exact (hk _ _ _ _).step fun Z H locs ls hl kk => lv_lload hx hb (hd 2 h1) (xlk_at hl hv) (kk ls hl)
    · exact XSim.none
  case lload_n k =>
    simp only [xok, Bool.and_eq_true, beq_iff_eq] at hok
    obtain ⟨h1, h2⟩ := hok
    simp only [xstep]
    split
    · rename_i v hv
      subst h2
      rw [h1]
      exact (hk _ _ _ _).step fun Z H locs ls hl kk => lv_lload_n hx hb (hd 1 h1) rfl (xlk_at hl hv) (kk ls hl)
    · exact XSim.none
  case dload k =>
    simp only [xok, Bool.and_eq_true, beq_iff_eq] at hok
    obtain ⟨h1, h2⟩ := hok
    simp only [xstep]
    split
    · rename_i v hv
      subst h2
      rw [h1]
      exact (hk _ _ _ _).step fun Z H locs ls hl kk => lv_dload hx hb (hd 2 h1) (xlk_at hl hv) (kk ls hl)
    · exact XSim.none
  case dload_n k =>
    simp only [xok, Bool.and_eq_true, beq_iff_eq] at hok
    obtain ⟨h1, h2⟩ := hok
    simp only [xstep]
    split
    · rename_i v hv
      subst h2
      rw [h1]
      exact (hk _ _ _ _).step fun Z H locs ls hl kk => lv_dload_n hx hb (hd 1 h1) rfl (xlk_at hl hv) (kk ls hl)
    · exact XSim.none
  case istore k =>
    simp only [xok, Bool.and_eq_true, beq_iff_eq, decide_eq_true_eq] at hok
    obtain ⟨⟨h1, h2⟩, h3⟩ := hok
    simp only [xstep]
    split
    · subst h2
      rw [h1]
      exact (hk _ _ _ _).step fun Z H locs ls hl kk => lv_istore hx hb (hd 2 h1) hl h3 rfl kk
    · exact XSim.none
  case istore_n k =>
    simp only [xok, Bool.and_eq_true, beq_iff_eq, decide_eq_true_eq] at hok
    obtain ⟨⟨h1, h2⟩, h3⟩ := hok
    simp only [xstep]
    split
    · subst h2
      rw [h1]
      exact (hk _ _ _ _).step fun Z H locs ls hl kk => lv_istore_n hx hb (hd 1 h1) rfl hl h3 rfl kk
    · exact XSim.none
  case astore k =>
    simp only [xok, Bool.and_eq_true, beq_iff_eq, decide_eq_true_eq] at hok
    obtain ⟨⟨h1, h2⟩, h3⟩ := hok
    simp only [xstep]
    split
    · subst h2
      rw [h1]
      exact (hk _ _ _ _).step fun Z H locs ls hl kk => lv_astore hx hb (hd 2 h1) hl h3 rfl kk
    · exact XSim.none
  case astore_n k =>
    simp only [xok, Bool.and_eq_true, beq_iff_eq, decide_eq_true_eq] at hok
    obtain ⟨⟨h1, h2⟩, h3⟩ := hok
    simp only [xstep]
    split
    · subst h2
      rw [h1]
      exact (hk _ _ _ _).step fun Z H locs ls hl kk => lv_astore_n hx hb (hd 1 h1) rfl hl h3 rfl kk
    · exact XSim.none
  case dstore k =>
    simp only [xok, Bool.and_eq_true, beq_iff_eq, decide_eq_true_eq] at hok
    obtain ⟨⟨h1, h2⟩, h3⟩ := hok
    simp only [xstep]
    split
    · subst h2
      rw [h1]
      exact (hk _ _ _ _).step fun Z H locs ls hl kk => lv_dstore hx hb (hd 2 h1) hl h3 rfl kk
    · exact XSim.none
  case dstore_n k =>
    simp only [xok, Bool.and_eq_true, beq_iff_eq, decide_eq_true_eq] at hok
    obtain ⟨⟨h1, h2⟩, h3⟩ := hok
    simp only [xstep]
    split
    · subst h2
      rw [h1]
      exact (hk _ _ _ _).step fun Z H locs ls hl kk => lv_dstore_n hx hb (hd 1 h1) rfl hl h3 rfl kk
    · exact XSim.none
  case iinc k n =>
    simp only [xok, Bool.and_eq_true, beq_iff_eq] at hok
    obtain ⟨⟨h1, h2⟩, h3⟩ := hok
    simp only [xstep]
    split
    · rename_i v cst hv
      cases h3
      subst h2
      rw [h1]
      obtain ⟨pl, hpl⟩ := xlk_place hv
      exact (hk _ _ _ _).step fun Z H locs ls hl kk => lv_iinc hx hb (hd 3 h1) hl hpl rfl (xlk_lt hl hv) rfl kk
    · exact XSim.none
  case iconst n =>
    simp only [xok, Bool.and_eq_true, beq_iff_eq] at hok
    obtain ⟨h1, rfl⟩ := hok
    simp only [xstep]
    rw [h1]
    exact (hk _ _ _ _).same fun Z H locs ls hl kk => lv_iconst hx hb (hd 1 h1) rfl kk
  case bipush n =>
    simp only [xok, Bool.and_eq_true, beq_iff_eq] at hok
    obtain ⟨h1, rfl⟩ := hok
    simp only [xstep]
    rw [h1]
    exact (hk _ _ _ _).same fun Z H locs ls hl kk => lv_bipush hx hb (hd 2 h1) rfl kk
  case sipush n =>
    simp only [xok, Bool.and_eq_true, beq_iff_eq] at hok
    obtain ⟨h1, rfl⟩ := hok
    simp only [xstep]
    rw [h1]
    exact (hk _ _ _ _).same fun Z H locs ls hl kk => lv_sipush hx hb (hd 3 h1) rfl kk
  case lconst n =>
    simp only [xok, Bool.and_eq_true, beq_iff_eq] at hok
    obtain ⟨h1, rfl⟩ := hok
    simp only [xstep]
    rw [h1]
    exact (hk _ _ _ _).same fun Z H locs ls hl kk => lv_lconst hx hb (hd 1 h1) rfl kk
  case dconst n =>
    simp only [xok, Bool.and_eq_true, beq_iff_eq] at hok
    obtain ⟨⟨h1, rfl⟩, rfl⟩ := hok
    simp only [xstep]
    rw [h1]
    exact (hk _ _ _ _).same fun Z H locs ls hl kk => lv_dconst0 hx hb (hd 1 h1) kk
  case ldc k =>
    simp only [xok, Bool.and_eq_true, beq_iff_eq] at hok
    obtain ⟨h1, h2⟩ := hok
    subst h2
    simp only [xstep]
    split
    · split
      · rename_i k2 kd hk2
        refine XSim.ite (fun e1 => ?_) (fun _ => XSim.none)
        subst e1
        have h4 := hB.2.2.2 _ _ _ hk2
        unfold XStc at h4
        rw [if_pos rfl] at h4
        obtain ⟨q, q1, q2, q3⟩ := h4
        rw [h1]
        exact XSim_gS fun v hv => XSim_str hx hb hown q1 q2 q3 (hd 2 h1) hv (hk _ _ _ _)
      · exact XSim.none
    · rename_i hv
      rw [h1]
      simp only [XCon] at hcon
      split at hcon
      · exact (hk _ _ _ _).same fun Z H locs ls hl kk => lv_ldc hx hb hown (hts _ hcon) (hd 2 h1) kk
      · exact (hk _ _ _ _).same fun Z H locs ls hl kk => lv_ldcf hx hb hown (hts _ hcon) (hd 2 h1) kk
      · exact absurd rfl hv
      · exact hcon.elim
  case ldc_w k =>
    simp only [xok, Bool.and_eq_true, beq_iff_eq] at hok
    obtain ⟨h1, h2⟩ := hok
    subst h2
    simp only [xstep]
    rw [h1]
    simp only [XCon] at hcon
    split at hcon
    · exact (hk _ _ _ _).same fun Z H locs ls hl kk => lv_ldcw hx hb hown (hts _ hcon) (hd 3 h1) kk
    · exact (hk _ _ _ _).same fun Z H locs ls hl kk => lv_ldcwF hx hb hown (hts _ hcon) (hd 3 h1) kk
    · exact hcon.elim
  case ldc2_w k =>
    simp only [xok, Bool.and_eq_true, beq_iff_eq] at hok
    obtain ⟨h1, h2⟩ := hok
    subst h2
    simp only [xstep]
    rw [h1]
    simp only [XCon] at hcon
    split at hcon
    · exact (hk _ _ _ _).same fun Z H locs ls hl kk => lv_ldc2 hx hb hown (hts _ hcon) (hd 3 h1) kk
    · exact hcon.elim
  case goto off =>
    simp only [xok, Bool.and_eq_true, beq_iff_eq, decide_eq_true_eq] at hok
    obtain ⟨h1, h2⟩ := hok
    simp only [xstep]
    exact (hk _ _ _ _).same fun Z H locs ls hl kk => lv_goto hx hb (hd 3 h1) h2 kk
  case ifCond cd off =>
    simp only [xok, Bool.and_eq_true, beq_iff_eq, decide_eq_true_eq] at hok
    obtain ⟨h1, h2⟩ := hok
    simp only [xstep]
    split
    · rw [h1]
      exact XSim.cond hx hb (hd 3 h1) h2 (hk _ _ _ _) (hk _ _ _ _)
    · exact XSim.none
  case if_icmp cd off =>
    simp only [xok, Bool.and_eq_true, beq_iff_eq, decide_eq_true_eq] at hok
    obtain ⟨h1, h2⟩ := hok
    simp only [xstep]
    split
    · rw [h1]
      exact XSim.cmp hx hb (hd 3 h1) h2 (hk _ _ _ _) (hk _ _ _ _)
    · exact XSim.none
  case tableswitch dflt lo hi offs =>
    simp only [xok, Bool.and_eq_true, beq_iff_eq, decide_eq_true_eq] at hok
    obtain ⟨⟨⟨⟨⟨⟨h0, h1⟩, h2⟩, h3⟩, h4⟩, h5⟩, h6⟩ := hok
    simp only [xstep]
    split
    · exact XSim_table hx hb (hd (nx - pc) (by omega)) h1 h2 h3 h4 h5 (fun j hj => by
        have := List.all_eq_true.mp h6 j (List.mem_range.mpr hj)
        simpa using this) (fun t => hk _ _ _ _)
    · exact XSim.none
  case lookupswitch dflt ps =>
    simp only [xok, Bool.and_eq_true, beq_iff_eq, decide_eq_true_eq] at hok
    obtain ⟨⟨⟨⟨h0, h1⟩, h2⟩, h3⟩, h4⟩ := hok
    simp only [xstep]
    split
    · rw [h3]
      exact XSim_lookup hx hb (hd (nx - pc) (by omega)) h1 h2 (fun t => hk _ _ _ _) _ rfl (fun q hq => by
        have := List.all_eq_true.mp h4 q hq
        simpa using this)
    · exact XSim.none
  case iadd =>
    simp only [xok, beq_iff_eq] at hok
    simp only [xstep]
    split
    · rw [hok]
      exact (hk _ _ _ _).same fun Z H locs ls hl kk => lv_iadd hx hb (hd 1 hok) kk
    · exact XSim.none
  case isub =>
    simp only [xok, beq_iff_eq] at hok
    simp only [xstep]
    split
    · rw [hok]
      exact (hk _ _ _ _).same fun Z H locs ls hl kk => lv_isub hx hb (hd 1 hok) kk
    · exact XSim.none
  case imul =>
    simp only [xok, beq_iff_eq] at hok
    simp only [xstep]
    split
    · rw [hok]
      exact (hk _ _ _ _).same fun Z H locs ls hl kk => lv_imul hx hb (hd 1 hok) kk
    · exact XSim.none
  case iand =>
    simp only [xok, beq_iff_eq] at hok
    simp only [xstep]
    split
    · rw [hok]
      exact (hk _ _ _ _).same fun Z H locs ls hl kk => lv_iand hx hb (hd 1 hok) kk
    · exact XSim.none
  case ior =>
    simp only [xok, beq_iff_eq] at hok
    simp only [xstep]
    split
    · rw [hok]
      exact (hk _ _ _ _).same fun Z H locs ls hl kk => lv_ior hx hb (hd 1 hok) kk
    · exact XSim.none
  case ixor =>
    simp only [xok, beq_iff_eq] at hok
    simp only [xstep]
    split
    · rw [hok]
      exact (hk _ _ _ _).same fun Z H locs ls hl kk => lv_ixor hx hb (hd 1 hok) kk
    · exact XSim.none
  case ladd =>
    simp only [xok, beq_iff_eq] at hok
    simp only [xstep]
    split
    · rw [hok]
      exact (hk _ _ _ _).same fun Z H locs ls hl kk => lv_ladd hx hb (hd 1 hok) kk
    · exact XSim.none
  case lmul =>
    simp only [xok, beq_iff_eq] at hok
    simp only [xstep]
    split
    · rw [hok]
      exact (hk _ _ _ _).same fun Z H locs ls hl kk => lv_lmul hx hb (hd 1 hok) kk
    · exact XSim.none
  case land =>
    simp only [xok, beq_iff_eq] at hok
    simp only [xstep]
    split
    · rw [hok]
      exact (hk _ _ _ _).same fun Z H locs ls hl kk => lv_land hx hb (hd 1 hok) kk
    · exact XSim.none
  case ishl =>
    simp only [xok, beq_iff_eq] at hok
    simp only [xstep]
    split
    · rw [hok]
      exact (hk _ _ _ _).same fun Z H locs ls hl kk => lv_ishl hx hb (hd 1 hok) kk
    · exact XSim.none
  case ishr =>
    simp only [xok, beq_iff_eq] at hok
    simp only [xstep]
    split
    · rw [hok]
      exact (hk _ _ _ _).same fun Z H locs ls hl kk => lv_ishr hx hb (hd 1 hok) kk
    · exact XSim.none
  case ineg =>
    simp only [xok, beq_iff_eq] at hok
    simp only [xstep]
    split
    · rw [hok]
      exact (hk _ _ _ _).same fun Z H locs ls hl kk => lv_ineg hx hb (hd 1 hok) kk
    · exact XSim.none
  case i2f =>
    simp only [xok, beq_iff_eq] at hok
    simp only [xstep]
    split
    · rw [hok]
      exact (hk _ _ _ _).same fun Z H locs ls hl kk => lv_i2f hx hb (hd 1 hok) kk
    · exact XSim.none
  case i2d =>
    simp only [xok, beq_iff_eq] at hok
    simp only [xstep]
    split
    · rw [hok]
      exact (hk _ _ _ _).same fun Z H locs ls hl kk => lv_i2d hx hb (hd 1 hok) kk
    · exact XSim.none
  case iushr =>
    simp only [xok, beq_iff_eq] at hok
    simp only [xstep]
    split
    · rw [hok]
      exact (hk _ _ _ _).same fun Z H locs ls hl kk => lv_iushr hx hb (hd 1 hok) rfl kk
    · exact XSim.none
  case i2l =>
    simp only [xok, beq_iff_eq] at hok
    simp only [xstep]
    split
    · rw [hok]
      exact (hk _ _ _ _).same fun Z H locs ls hl kk => lv_i2l hx hb (hd 1 hok) rfl kk
    · exact XSim.none
  case l2i =>
    simp only [xok, beq_iff_eq] at hok
    simp only [xstep]
    split
    · rw [hok]
      exact (hk _ _ _ _).same fun Z H locs ls hl kk => lv_l2i hx hb (hd 1 hok) rfl kk
    · exact XSim.none
  case i2b =>
    simp only [xok, beq_iff_eq] at hok
    simp only [xstep]
    split
    · rw [hok]
      exact (hk _ _ _ _).same fun Z H locs ls hl kk => lv_i2b hx hb (hd 1 hok) rfl kk
    · exact XSim.none
  case i2c =>
    simp only [xok, beq_iff_eq] at hok
    simp only [xstep]
    split
    · rw [hok]
      exact (hk _ _ _ _).same fun Z H locs ls hl kk => lv_i2c hx hb (hd 1 hok) rfl kk
    · exact XSim.none
  case lshr =>
    simp only [xok, beq_iff_eq] at hok
    simp only [xstep]
    split
    · rw [hok]
      exact (hk _ _ _ _).same fun Z H locs ls hl kk => lv_lshr hx hb (hd 1 hok) rfl kk
    · exact XSim.none
  case lcmp =>
    simp only [xok, beq_iff_eq] at hok
    simp only [xstep]
    split
    · rw [hok]
      exact (hk _ _ _ _).same fun Z H locs ls hl kk => W.lcmp hx hb (hd 1 hok) kk
    · exact XSim.none
  case dcmp op =>
    simp only [xok, beq_iff_eq] at hok
    simp only [xstep]
    split
    · rw [hok]
      exact (hk _ _ _ _).same fun Z H locs ls hl kk => lv_dcmp hx hb (hd 1 hok) kk
    · exact XSim.none
  case idiv =>
    simp only [xok, beq_iff_eq] at hok
    simp only [xstep]
    split
    · rw [hok]
      exact XSim.ite (fun _ => XSim.none) (fun hy => (hk _ _ _ _).same fun Z H locs ls hl kk => lv_idiv hx hb (hd 1 hok) hy kk)
    · exact XSim.none
  case irem =>
    simp only [xok, beq_iff_eq] at hok
    simp only [xstep]
    split
    · rw [hok]
      exact XSim.ite (fun _ => XSim.none) (fun hy => (hk _ _ _ _).same fun Z H locs ls hl kk => lv_irem hx hb (hd 1 hok) hy kk)
    · exact XSim.none
  case f2d =>
    simp only [xok, beq_iff_eq] at hok
    simp only [xstep]
    split
    · rw [hok]
      unfold f2dv
      exact XSim.ite (fun hy => (hk _ _ _ _).same fun Z H locs ls hl kk => lv_f2d hx hb (hd 1 hok) hy kk) (fun _ => XSim.none)
    · exact XSim.none
  case fdiv =>
    simp only [xok, beq_iff_eq] at hok
    simp only [xstep]
    split
    · rw [hok]
      unfold fdv
      exact XSim.ite (fun hy => (hk _ _ _ _).same fun Z H locs ls hl kk => lv_fdiv hx hb (hd 1 hok) hy kk) (fun _ => XSim.none)
    · exact XSim.none
  case ddiv =>
    simp only [xok, beq_iff_eq] at hok
    simp only [xstep]
    split
    · rw [hok]
      unfold ddv
      exact XSim.ite (fun hy => (hk _ _ _ _).same fun Z H locs ls hl kk => lv_ddiv hx hb (hd 1 hok) hy kk) (fun _ => XSim.none)
    · exact XSim.none
  case dup =>
    simp only [xok, beq_iff_eq] at hok
    simp only [xstep]
    split
    · rw [hok]
      exact XSim.ite (fun hy => (hk _ _ _ _).same fun Z H locs ls hl kk => lv_dup hx hb (hd 1 hok) hy kk) (fun _ => XSim.none)
    · exact XSim.none
  case dup2 =>
    simp only [xok, beq_iff_eq] at hok
    simp only [xstep]
    split
    · rw [hok]
      exact XSim.ite (fun hy => (hk _ _ _ _).same fun Z H locs ls hl kk => lv_dup2_11 hx hb (hd 1 hok) hy.1 hy.2 kk) (fun _ => XSim.none)
    · exact XSim.none
  case pop =>
    simp only [xok, beq_iff_eq] at hok
    simp only [xstep]
    split
    · rw [hok]
      exact XSim.ite (fun hy => (hk _ _ _ _).same fun Z H locs ls hl kk => lv_pop hx hb (hd 1 hok) hy kk) (fun _ => XSim.none)
    · exact XSim.none
  case iaload =>
    simp only [xok, beq_iff_eq] at hok
    simp only [xstep]
    split
    · rw [hok]
      exact XSim_rdI hx hb hK (hd 1 hok) (fun v => hk _ _ _ _)
    · exact XSim.none
  case baload =>
    simp only [xok, beq_iff_eq] at hok
    simp only [xstep]
    split
    · rw [hok]
      exact XSim_rdB hx hb hK (hd 1 hok) (fun v => hk _ _ _ _)
    · exact XSim.none
  case aaload =>
    simp only [xok, beq_iff_eq] at hok
    simp only [xstep]
    split
    · rw [hok]
      exact XSim_rdR hx hb (hd 1 hok) (fun v => hk _ _ _ _)
    · exact XSim.none
  case aastore =>
    simp only [xok, beq_iff_eq] at hok
    simp only [xstep]
    split
    · rw [hok]
      exact XSim_wrR hx hb hK (hd 1 hok) (fun h => hk _ _ _ _)
    · exact XSim.none
  case iastore =>
    simp only [xok, beq_iff_eq] at hok
    simp only [xstep]
    split
    · rw [hok]
      exact XSim_wrI hx hb hK (hd 1 hok) (fun h => hk _ _ _ _)
    · exact XSim.none
  case bastore =>
    simp only [xok, beq_iff_eq] at hok
    simp only [xstep]
    split
    · rw [hok]
      exact XSim_wrB hx hb hK (hd 1 hok) (fun h => hk _ _ _ _)
    · exact XSim.none
  case arraylength =>
    simp only [xok, beq_iff_eq] at hok
    simp only [xstep]
    split
    · rw [hok]
      exact XSim_lnA hx hb hK (hd 1 hok) (fun h => hk _ _ _ _)
    · exact XSim.none
  case getfield k =>
    simp only [xok, Bool.and_eq_true, beq_iff_eq] at hok
    obtain ⟨h1, h2⟩ := hok
    subst h2
    simp only [xstep]
    split
    · rename_i d x kd a rest hf
      obtain ⟨q, q1, q2, q3, -⟩ := hB.2.1 _ _ _ _ hf
      rw [h1]
      refine XSim.ite (fun _ => XSim_gI hK fun F v ha hv => XSim_get hx hb hK hown hts q1 q2 q3 (hd 3 h1) ha hv (hk _ _ _ _)) (fun _ => XSim.ite (fun _ => XSim_gR hK fun F v ha hv => XSim_get hx hb hK hown hts q1 q2 q3 (hd 3 h1) ha hv (hk _ _ _ _)) (fun _ => XSim.ite (fun _ => XSim_gL hK fun F v ha hv => XSim_get hx hb hK hown hts q1 q2 q3 (hd 3 h1) ha hv (hk _ _ _ _)) (fun _ => XSim.ite (fun _ => XSim_gI hK fun F v ha hv => XSim_get hx hb hK hown hts q1 q2 q3 (hd 3 h1) ha hv (hk _ _ _ _)) (fun _ => XSim.none))))
    · exact XSim.none
  case putfield k =>
    simp only [xok, Bool.and_eq_true, beq_iff_eq] at hok
    obtain ⟨h1, h2⟩ := hok
    subst h2
    simp only [xstep]
    split
    · rename_i d x kd v a rest hf
      obtain ⟨q, q1, q2, q3, q4⟩ := hB.2.1 _ _ _ _ hf
      rw [h1]
      refine XSim.ite (fun e1 => ?_) (fun _ => XSim.ite (fun e1 => XSim.ite (fun hv => ?_) (fun _ => XSim.none)) (fun _ => XSim.none))
      · subst e1
        obtain ⟨g1, g2, g3⟩ := q4 (Or.inl rfl)
        rw [if_pos rfl] at g3
        exact XSim_put (ty := .int) hx hb hK hown hts g1 q2 q3 g2 (by rw [g3]; decide) rfl rfl (hd 3 h1) (fun h => hk _ _ _ _)
      · subst e1
        obtain ⟨g1, g2, g3⟩ := q4 (Or.inr (Or.inl rfl))
        rw [if_neg (by decide), if_pos rfl] at g3
        refine XSim_put (ty := .boolean) hx hb hK hown hts g1 q2 q3 g2 (by rw [g3]; decide) ?_ ?_ (hd 3 h1) (fun h => hk _ _ _ _)
        · rcases hv with rfl | rfl
          · exact narrow_b0
          · exact narrow_b1
        · rcases hv with rfl | rfl <;> rfl
    · rename_i d x kd v a rest hf
      obtain ⟨q, q1, q2, q3, q4⟩ := hB.2.1 _ _ _ _ hf
      rw [h1]
      refine XSim.ite (fun e1 => ?_) (fun _ => XSim.none)
      subst e1
      obtain ⟨g1, g2, g3⟩ := q4 (Or.inr (Or.inr rfl))
      rw [if_neg (by decide), if_neg (by decide)] at g3
      exact XSim_put (ty := .long) hx hb hK hown hts g1 q2 q3 g2 (by rw [g3]; decide) rfl rfl (hd 3 h1) (fun h => hk _ _ _ _)
    · exact XSim.none
  case getstatic k =>
    simp only [xok, Bool.and_eq_true, beq_iff_eq] at hok
    obtain ⟨h1, h2⟩ := hok
    subst h2
    simp only [xstep]
    split
    · rename_i k2 kd hf
      have h4 := hB.2.2.2 _ _ _ hf
      unfold XStc at h4
      rw [h1]
      refine XSim.ite (fun e1 => ?_) (fun _ => XSim.ite (fun e1 => ?_) (fun _ => XSim.ite (fun e1 => ?_) (fun _ => XSim.none)))
      · subst e1
        rw [if_neg (by decide)] at h4
        obtain ⟨q, q1, q2⟩ := h4
        exact XSim_gS fun v hv => XSim_static hx hb hown hts q1 q2 (hd 3 h1) hv (hk _ _ _ _)
      · subst e1
        rw [if_neg (by decide)] at h4
        obtain ⟨q, q1, q2⟩ := h4
        exact XSim_gT fun v hv => XSim_static hx hb hown hts q1 q2 (hd 3 h1) hv (hk _ _ _ _)
      · subst e1
        rw [if_neg (by decide)] at h4
        obtain ⟨q, q1, q2⟩ := h4
        exact XSim_static hx hb hown hts q1 q2 (hd 3 h1) rfl (hk _ _ _ _)
    · exact XSim.none
  case invokevirtual k =>
    simp only [xok, Bool.and_eq_true, beq_iff_eq] at hok
    obtain ⟨h1, h2⟩ := hok
    subst h2
    simp only [xstep]
    unfold xcallV
    split
    · rename_i na kd d f hf
      split
      · rename_i a as hv
        refine XSim.ite (fun hs => ?_) (fun _ => XSim.none)
        rw [h1]
        refine XSim_virt hx hb hml hK hown hts hR (hB.2.2.1 _ _ hf) hs.1 ?_ hs.2 (hd 3 h1) (fun rs h1 => hk _ _ _ _)
        have e1 : st.take na = as.reverse ++ [.ref a] := by
          rw [← List.reverse_reverse (st.take na), hv]
          simp
        have e2 := List.take_append_drop na st
        rw [e1, List.append_assoc] at e2
        exact e2.symm
      · exact XSim.none
    · exact XSim.none
  case invokestatic k =>
    simp only [xok, Bool.and_eq_true, beq_iff_eq] at hok
    obtain ⟨h1, h2⟩ := hok
    subst h2
    simp only [xstep]
    have hin := fun v e => hcp v e _ rfl
    refine XSim.ite (fun e1 => ?_) (fun _ => XSim.ite (fun e1 => ?_) (fun _ => XSim.ite (fun e1 => ?_) (fun _ => XSim.ite (fun e1 => ?_) (fun _ => ?_))))
    · split
      · refine XSim.ite (fun hs => ?_) (fun _ => XSim.none)
        rw [h1]
        have h9 := hin 9 e1
        unfold XIn at h9
        rw [if_pos rfl] at h9
        exact XSim_copy hx hb hml hK hown hts (show XCp own ix R from h9) hs (hd 3 h1) (fun h => hk _ _ _ _)
      · exact XSim.none
    · split
      · refine XSim.ite (fun hs => ?_) (fun _ => XSim.none)
        rw [h1]
        have h9 := hin 1 e1
        unfold XIn at h9
        rw [if_neg (by decide), if_pos rfl] at h9
        obtain ⟨w1, w2, w3, w4, w5, w6⟩ := h9
        dsimp only [xrm] at w5 w6
        exact (hk _ _ _ _).step fun Z H locs ls hl kk => va_mabs hx hb (hml.trans hl.1.symm) hown (hts _ w1) (hts _ w2) (hts _ w3) (hts _ w4) w5 (by omega) hR.1 hR.2 (hd 3 h1) (kk ls hl)
      · exact XSim.none
    · split
      · refine XSim.ite (fun hs => ?_) (fun _ => XSim.none)
        rw [h1]
        have h9 := hin 2 e1
        unfold XIn at h9
        rw [if_neg (by decide), if_neg (by decide), if_pos rfl] at h9
        obtain ⟨w1, w2, w3, w4, w5, w6⟩ := h9
        dsimp only [xrm] at w5 w6
        exact (hk _ _ _ _).step fun Z H locs ls hl kk => va_mmax hx hb (hml.trans hl.1.symm) hown (hts _ w1) (hts _ w2) (hts _ w3) (hts _ w4) w5 (by omega) hR.1 hR.2 (hd 3 h1) (kk ls hl)
      · exact XSim.none
    · split
      · refine XSim.ite (fun hs => ?_) (fun _ => XSim.none)
        rw [h1]
        have h9 := hin 3 e1
        unfold XIn at h9
        rw [if_neg (by decide), if_neg (by decide), if_neg (by decide), if_pos rfl] at h9
        obtain ⟨w1, w2, w3, w4, w5, w6⟩ := h9
        dsimp only [xrm] at w5 w6
        exact (hk _ _ _ _).step fun Z H locs ls hl kk => va_mmin hx hb (hml.trans hl.1.symm) hown (hts _ w1) (hts _ w2) (hts _ w3) (hts _ w4) w5 (by omega) hR.1 hR.2 (hd 3 h1) (kk ls hl)
      · exact XSim.none
    · unfold xcallS
      split
      · rename_i na kd f hf
        refine XSim.ite (fun hs => ?_) (fun _ => XSim.none)
        rw [h1]
        refine XSim_stat hx hb hml hK hown hts hR (hB.2.2.1 _ _ hf) (by simp; omega) ?_ hs.2 (hd 3 h1) (fun rs h1 => hk _ _ _ _)
        rw [List.reverse_reverse, List.take_append_drop]
      · exact XSim.none
  all_goals exact hdef (by simpa [xok] using hok)
/-- the cuts are sound: from each of them the machine does what its function tells -/
def XCutOK (p : Program) (l : Launch) (e : Env) (R : Room) (s : State) (m : MethodId) (args : Array Value) (below : List Frame) (meth : Method) (c : Code) (cells slots : Nat) (Q : Option Value → XH → State → Prop) (G : XG) (z N0 nL : Nat) (cut : XCut) : Prop :=
  ∀ pc live f, cut pc = some (live, f) → ∀ vs st h, XSim p l e R s m args below meth c cells slots Q G z N0 nL pc (live.zip vs) st h (f vs st h)
theorem XSim.sub {lv' : XLV} (hk : XSim p l e R s m args below meth c cells slots Q G z N0 nL pc lv' st h r) (hs : ∀ ls, lv_has ls nL lv → lv_has ls nL lv') : XSim p l e R s m args below meth c cells slots Q G z N0 nL pc lv st h r := fun rv h' hr H locs ls hI hl => hk rv h' hr H locs ls hI (hs ls hl)
theorem xgo_sound {cut : XCut} (hc : XCutOK p l e R s m args below meth c cells slots Q G z N0 nL cut) {K : XK} (hk : ∀ pc lv st h, XSim p l e R s m args below meth c cells slots Q G z N0 nL pc lv st h (K pc lv st h)) (pc : Nat) (lv : XLV) (st : List Value) (h : XH) :
    XSim p l e R s m args below meth c cells slots Q G z N0 nL pc lv st h (xgo cut K pc lv st h) := by
  unfold xgo
  split
  · rename_i live f hf
    split
    · rename_i vs hv
      exact (hc pc live f hf vs st h).sub fun ls hl => xpick_has hl hv
    · exact XSim.none
  · exact hk pc lv st h
theorem xrun_sound (hx : p.tables.exec = Jvm.exec) (hb : c.code = cc) (hml : c.maxLocals = nL) (hK : XKn G s) (hown : s.vm.findClass own = some m.cls) (hts : ∀ w ∈ xw, w.before args s = true) (hR : cells ≤ R.cells ∧ slots ≤ R.slots)
    {B : XB} (hB : XOK B cc nL own R.frames R.locals) (hret : XHret p l e R s m args below meth c cells slots Q G z N0 nL cc B.2.2.2.1) {cut : XCut} (hc : XCutOK p l e R s m args below meth c cells slots Q G z N0 nL cut) :
    ∀ n pc lv st h, XSim p l e R s m args below meth c cells slots Q G z N0 nL pc lv st h (xrun B cut n pc lv st h) := by
  intro n
  induction n with
  | zero => intro pc lv st h; exact XSim.none
  | succ n ih =>
    intro pc lv st h
    simp only [xrun]
    split
    · rename_i w hw
      exact xstep_sound hx hb hml hK hown hts hR hB hret hw (xgo_sound hc ih)
    · exact XSim.none
end XS5
/-- what a method's proof has in hand: the same for each of its cuts -/
def XCtx (p : Program) (l : Launch) (e : Env) (R : Room) (s : State) (m : MethodId) (args : Array Value) (below : List Frame) (meth : Method) (c : Code) (Q : Option Value → XH → State → Prop) (G : XG) (z N0 nL : Nat) (cc : ByteArray) (own : String) (rk : Nat) : Prop :=
  p.tables.exec = Jvm.exec ∧ c.code = cc ∧ c.maxLocals = nL ∧ XKn G s ∧ s.vm.findClass own = some m.cls ∧ (∀ w ∈ xw, w.before args s = true) ∧ XHret p l e R s m args below meth c 0 0 Q G z N0 nL cc rk
/-- a function is what the code does from a place on, with these locals live -/
def XTo (cc : ByteArray) (nL : Nat) (own : String) (rk fr lo : Nat) (pc : Nat) (live : List Nat) (f : List Value → List Value → XH → XR) : Prop :=
  ∀ p l e s m args below meth c Q G z N0, XCtx p l e (xrm fr lo) s m args below meth c Q G z N0 nL cc own rk → ∀ vs st h, XSim p l e (xrm fr lo) s m args below meth c 0 0 Q G z N0 nL pc (live.zip vs) st h (f vs st h)
theorem XTo.run {B : XB} {cc : ByteArray} {nL : Nat} {own : String} {fr lo pc : Nat} {live : List Nat} {f : List Value → List Value → XH → XR} {cut : XCut} (hB : XOK B cc nL own fr lo) (hc : ∀ pc live f, cut pc = some (live, f) → XTo cc nL own B.2.2.2.1 fr lo pc live f) (n : Nat)
    (hf : ∀ vs st h r, f vs st h = some r → xrun B cut n pc (live.zip vs) st h = some r) : XTo cc nL own B.2.2.2.1 fr lo pc live f := by
  intro p l e s m args below meth c Q G z N0 C vs st h
  obtain ⟨hx, hb, hml, hK, hown, hts, hret⟩ := id C
  intro rv h' hr
  exact xrun_sound hx hb hml hK hown hts ⟨Nat.zero_le _, Nat.zero_le _⟩ hB hret (fun pc live f h => hc pc live f h p l e s m args below meth c Q G z N0 C) n pc _ st h rv h' (hf vs st h _ hr)
def xrt : Nat → Option (Option FieldType)
  | 0 => some none
  | 1 => some (some .int)
  | 2 => some (some .float)
  | 3 => some (some .double)
  | 6 => some (some .boolean)
  | 7 => some (some .byte)
  | 8 => some (some .char)
  | _ => none
theorem xret_ok {p : Program} {l : Launch} {e : Env} {R : Room} {s : State} {m : MethodId} {args : Array Value} {below : List Frame} {meth : Method} {c : Code} {G : XG} {z nL rk : Nat} {cc : ByteArray} {ret : Option FieldType}
    (hx : p.tables.exec = Jvm.exec) (hb : c.code = cc) (hr : meth.sig.returnType = ret) (hlocks : meth.locks = false) (hrk : xrt rk = some ret) :
    XHret p l e R s m args below meth c 0 0 (fun rv h' => MQ below (XQ G z rv h') args s 0 0 (fun q => z ≤ q)) G z s.heap.size nL cc rk := by
  intro pc i st h rv h' hd hret
  have fin : ∀ (v : Option Value) (H : Heap) (locs : List Loc), XI G z s.heap.size s h H locs → ∀ t : State, t.heap = H → s.WarmedH t.vm → XQ G z v h args s (.returned v) t := fun v H locs hI t ht hW => ⟨rfl, by rw [ht]; exact hI.1.moved hW.alike, by rw [ht]; exact hI.2.1, fun q hq => by rw [ht]; exact hI.2.2.1 q hq, hI.2.2.2.2.warm hW⟩
  have hint : ∀ (v : Int32) (ty : FieldType), ret = some ty → narrow ty (.int v) = .int v → i = .ireturn → st = [.int v] → rv = some (.int v) → h' = h → ∀ (H : Heap) (locs : List Loc) (ls : Array Slot), XI G z s.heap.size s h H locs → W p l e R s m args below meth c H locs 0 0 (MQ below (XQ G z rv h') args s 0 0 (fun q => z ≤ q)) (F0 m pc ls st) := by
    rintro v ty e1 e2 rfl rfl rfl rfl H locs ls hI
    exact W.zret hx hb (hr.trans e1) e2 (fin _ H locs hI) hI.2.2.2.1 hd
  unfold xret at hret
  split at hret
  · rename_i v
    split at hret
    · rename_i e1
      subst e1
      cases hrk
      cases hret
      exact hint v _ rfl rfl rfl rfl rfl rfl
    · split at hret
      · rename_i e1
        subst e1
        cases hrk
        unfold rZ at hret
        split at hret
        · rename_i hv
          cases hret
          exact hint v _ rfl (by rcases hv with rfl | rfl; exact narrow_b0; exact narrow_b1) rfl rfl rfl rfl
        · cases hret
      · split at hret
        · rename_i e1
          subst e1
          cases hrk
          split at hret
          · rename_i hv
            cases hret
            exact hint v _ rfl hv rfl rfl rfl rfl
          · cases hret
        · split at hret
          · rename_i e1
            subst e1
            cases hrk
            split at hret
            · rename_i hv
              cases hret
              exact hint v _ rfl hv rfl rfl rfl rfl
            · cases hret
          · cases hret
  · split at hret
    · rename_i e1
      subst e1
      cases hrk
      cases hret
      exact fun H locs ls hI => W.vret hx hb hr (fin _ H locs hI) hI.2.2.2.1 hd
    · cases hret
  · split at hret
    · rename_i e1
      subst e1
      cases hrk
      cases hret
      exact fun H locs ls hI => W.fret hx hb hr (fin _ H locs hI) hI.2.2.2.1 hd
    · cases hret
  · split at hret
    · rename_i e1
      subst e1
      cases hrk
      cases hret
      exact fun H locs ls hI => W.dret hx hb hr (fin _ H locs hI) hI.2.2.2.1 hd
    · cases hret
  · cases hret
/-- a method out of its body -/
theorem XS.of2 {y : MethodName} {cc : ByteArray} {nL : Nat} {ret : Option FieldType} {fr lo rk : Nat} {live : List Nat} {f : List Value → XH → XR} {g : List Value → List Value → XH → XR} {own : String}
    (hy : plainName y.cls = true) (ho : y.cls = own) (hrk : xrt rk = some ret) (hT : XTo cc nL own rk fr lo 0 live g)
    (hf : ∀ vs h r, f vs h = some r → ∃ vs', (∀ q ∈ live.zip vs', q ∈ lv_args 0 vs) ∧ (lg_sl vs).length ≤ nL ∧ g vs' [] h = some r) : XS y cc nL ret (xrm fr lo) f := by
  intro l G z vs h rv h' hr
  obtain ⟨vs', e1, e2, e3⟩ := hf vs h _ hr
  subst ho
  refine Met.ofW (cc := cc) (maxL := nL) (ret := ret) hy rfl ?_
  intro p e s m args below meth c s₁ B hml hP
  obtain ⟨rfl, hrel, hK, hstr⟩ := hP
  have hts := atoms_spec (ws := Cond.code y cc nL ret :: xw) B.pre
  have hown : s.vm.findClass y.cls = some m.cls := findClass_of_methodNamed B.named
  have k1 := hT p l e s m vs.toArray below meth c _ G z s.heap.size ⟨B.exec, B.bytes, hml, hK, hown, fun w hw => hts w (List.mem_cons_of_mem _ hw), xret_ok B.exec B.bytes B.returns B.notSynchronized hrk⟩ vs' [] h rv h' e3
  have hl := lv_entry vs (n := nL) e2
  rw [lg_entry_eq]
  exact k1 s.heap [] _ ⟨hrel, rfl, fun _ _ => rfl, fun q hq => (by cases hq), hstr⟩ ⟨hl.1, hl.2.1, fun q hq => hl.2.2 q (e1 q hq)⟩
theorem XS.of {y : MethodName} {cc : ByteArray} {nL : Nat} {ret : Option FieldType} {fr lo rk : Nat} {live : List Nat} {f : List Value → XH → XR} {g : List Value → List Value → XH → XR} {own : String}
    (hy : plainName y.cls = true) (ho : y.cls = own) (hrk : xrt rk = some ret) (hT : XTo cc nL own rk fr lo 0 live g)
    (hf : ∀ vs h r, f vs h = some r → lv_args 0 vs = live.zip vs ∧ (lg_sl vs).length ≤ nL ∧ g vs [] h = some r) : XS y cc nL ret (xrm fr lo) f :=
  XS.of2 hy ho hrk hT fun vs h r hr => ⟨vs, by rw [(hf vs h r hr).1]; exact fun q hq => hq, (hf vs h r hr).2⟩
