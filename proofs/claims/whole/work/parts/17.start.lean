/-! the law's start out of what the functions do -/
/-- what is only read lies below what is made -/
def XLow (h : XH) (z : Nat) : Prop := (∀ a n f, h.1.2.1 a = some (n, f) → a < z) ∧ (∀ a n f, h.1.2.2.1 a = some (n, f) → a < z) ∧ (∀ a F, h.1.2.2.2 a = some F → a < z)
/-- WHAT IS LEFT: the functions, from the heap that the constructors leave, answer 1 -/
def XSem : Prop := ∀ (h : XH) (z b L : Nat) (xs : Nat → Int32), L ≤ 3072 → b < z → XLow h z → XInit h b L xs → ∃ h1 h2 h3, qD_init z (xhs h z (xobj 8 (xdf 8))) (z + 1) = rV h1 ∧ qM_init (z + 371) (xhs h1 (z + 371) (xobj 9 (xdf 9))) (z + 372) = rV h2 ∧ qL_law_18 LF b z (z + 371) 0 h2 = rI 1 h3
section XS6
variable {p : Program} {l : Launch} {e : Env} {R : Room} {s : State} {m : MethodId} {args : Array Value} {below : List Frame} {meth : Method} {c : Code} {cells slots : Nat} {Q : Option Value → XH → State → Prop} {G : XG} {z N0 nL : Nat}
variable {cc : ByteArray} {own : String} {pc nx : Nat} {lv : XLV} {st : List Value} {h : XH} {r : XR}
theorem XSim.widen {k n : Nat} (h1 : cells ≤ k) (h2 : slots ≤ n) (hk : XSim p l e R s m args below meth c k n Q G z N0 nL pc lv st h r) : XSim p l e R s m args below meth c cells slots Q G z N0 nL pc lv st h r := fun rv h' hr H locs ls hI hl => W.widen h1 h2 (hk rv h' hr H locs ls hI hl)
theorem XSim_cons1 (hx : p.tables.exec = Jvm.exec) (hb : c.code = cc) (hml : c.maxLocals = nL) (hK : XKn G s) (hown : s.vm.findClass own = some m.cls) (hts : ∀ w ∈ xw, w.before args s = true) {ix a d mc1 ms1 : Nat} {f : Nat → XH → Nat → XR} {h1 : XH} (ho : XCons own ix R.frames R.locals (mc1, ms1, d, f)) (hR : cells + mc1 ≤ R.cells ∧ slots + ms1 ≤ R.slots) (hst : (st.map fun v => v.category).sum ≤ 8) (hd : decode cc pc = .ok (.invokespecial ix, 3))
    (e1 : f a h N0 = rV h1) (hk : XSim p l e R s m args below meth c (cells + mc1) (slots + ms1) Q G z (N0 + mc1) nL (pc + 3) lv st h1 r) :
    XSim p l e R s m args below meth c cells slots Q G z N0 nL pc lv (.ref a :: st) h r := by
  have h2 := XSim_cons (a := a) (h := h) (k := fun hh => @ite XR (hh = h1) (Classical.propDecidable _) r none) hx hb hml hK hown hts ho hR hst hd (fun hh => by
    by_cases hq : hh = h1
    · subst hq; rw [if_pos rfl]; exact hk
    · rw [if_neg hq]; exact XSim.none)
  rw [e1] at h2
  have h3 : bV (rV h1) (fun hh => @ite XR (hh = h1) (Classical.propDecidable _) r none) = r := by
    show @ite XR (h1 = h1) (Classical.propDecidable _) r none = r
    rw [if_pos rfl]
  rw [h3] at h2
  exact h2
end XS6
theorem W.mono {p : Program} {l : Launch} {e : Env} {R : Room} {s : State} {m : MethodId} {args : Array Value} {below : List Frame} {meth : Method} {c : Code} {H : Heap} {locs : List Loc} {cells slots : Nat} {Q Q' : State → Prop} {g : JFrame} (hQ : ∀ t, Q t → Q' t) (k : W p l e R s m args below meth c H locs cells slots Q g) : W p l e R s m args below meth c H locs cells slots Q' g := fun T hT X => by
  obtain ⟨t, a, b⟩ := k T hT X
  exact ⟨t, a, hQ t b⟩
theorem dl_0 : decode code 0 = .ok (.new 7, 3) := by decide +kernel
theorem dl_3 : decode code 3 = .ok (.dup, 1) := by decide +kernel
theorem dl_4 : decode code 4 = .ok (.invokespecial 9, 3) := by decide +kernel
theorem dl_7 : decode code 7 = .ok (.astore_n 1, 1) := by decide +kernel
theorem dl_8 : decode code 8 = .ok (.new 10, 3) := by decide +kernel
theorem dl_11 : decode code 11 = .ok (.dup, 1) := by decide +kernel
theorem dl_12 : decode code 12 = .ok (.invokespecial 12, 3) := by decide +kernel
theorem dl_15 : decode code 15 = .ok (.astore_n 2, 1) := by decide +kernel
theorem dl_16 : decode code 16 = .ok (.iconst 0, 1) := by decide +kernel
theorem dl_17 : decode code 17 = .ok (.istore_n 3, 1) := by decide +kernel
theorem whole_start_of (hsem : XSem) {p : Program} {e : Env} {s : State} {m : MethodId} {below : List Frame} {meth : Method} {c : Code} (l : Launch) (hflags : l.flags = flags0) {b L : Nat} {xs : Nat → Int32} (hL : L ≤ 3072) (C0 : lw_At p s m meth c b L xs) : W p l e room_1 s m #[Value.ref b] below meth c s.heap [] 0 0 (lw_Z below #[Value.ref b] s) (entryFrame m ([Value.ref b] : List Value).toArray 8) := by
  obtain ⟨G, h, hK, hRel, hStr, hIni⟩ := xinit hL C0
  obtain ⟨hx, hb, hr, hml, hown, hts0, hX, hbl, hlocks, hgv⟩ := C0
  have hts : ∀ w ∈ xw, w.before #[Value.ref b] s = true := fun w hw => hts0 w (xm_w hw)
  obtain ⟨h1, h2, h3, e1, e2, e3⟩ := hsem h s.heap.size b L xs hL hbl ⟨fun a n f e => (hRel.2.2.2.1 a n f e).1, fun a n f e => (hRel.2.2.2.2.1 a n f e).1, fun a F e => (hRel.2.2.2.2.2 a F e).1⟩ hIni
  have hret : XHret p l e room_1 s m #[Value.ref b] below meth c 600000 7302250 (fun rv _ => fun t => rv = some (.int 1) → lw_Z below #[Value.ref b] s t) G s.heap.size (s.heap.size + 391) 8 code 6 := by
    intro pc i st hh rv h' hd hret H locs ls hI
    unfold xret at hret
    split at hret
    · rename_i v
      simp only [show ¬ (6 : Nat) = 1 by decide, if_false, if_true] at hret
      unfold rZ at hret
      split at hret
      · rename_i hv
        cases hret
        by_cases hv1 : v = 1
        · subst hv1
          refine W.mono (fun t ht _ => ht) (va_forget hI.2.2.2.1 (W.base (lw_ret (Drawn.sameBut.refl s.drawn lw_cs) hx hb hr hlocks hd)))
        · intro T hT X
          exact ⟨_, Steps.refl _, fun h => absurd (by simpa using h) hv1⟩
      · cases hret
    · simp at hret
    · simp at hret
    · simp at hret
    · cases hret
  have x18 : XSim p l e room_1 s m #[Value.ref b] below meth c 600000 7302250 (fun rv _ => fun t => rv = some (.int 1) → lw_Z below #[Value.ref b] s t) G s.heap.size (s.heap.size + 391) 8 18 (List.zip [0, 1, 2, 3] [.ref b, .ref s.heap.size, .ref (s.heap.size + 371), .int 0]) [] h2 (qL_law_18 LF b s.heap.size (s.heap.size + 371) 0 h2) :=
    tL_law_18 LF p l e s m #[Value.ref b] below meth c _ G s.heap.size (s.heap.size + 391) ⟨hx, hb, hml, hK, hown, hts, hret⟩ [.ref b, .ref s.heap.size, .ref (s.heap.size + 371), .int 0] [] h2
  have hd : ∀ cc : ByteArray, cc = code → c.code = cc := fun cc hcc => hb.trans hcc.symm
  have x0 : XSim p l e room_1 s m #[Value.ref b] below meth c 0 0 (fun rv _ => fun t => rv = some (.int 1) → lw_Z below #[Value.ref b] s t) G s.heap.size s.heap.size 8 0 [(0, .ref b)] [] h (rI 1 h3) := by
    refine XSim_new (d := 8) (k := 12) hx hb hK hown hts ⟨_, rfl, rfl, xw_t1 19 rfl rfl, xw_t1 20 rfl rfl, xw_t1 1 rfl rfl⟩ ⟨by decide, by decide⟩ dl_0 ?_
    refine XSim.same (st' := [.ref s.heap.size, .ref s.heap.size]) (nx := 4) ?_ (fun Z H locs ls hl k => lv_dup hx hb dl_3 rfl k)
    refine XSim_cons1 (d := 8) (mc1 := 370) (ms1 := 18520) (f := qD_init) hx hb hml hK hown hts ⟨yX8_init, cX8_init, 2, 4, 82, _, SD_init, rfl, Nat.le_of_ble_eq_true rfl, Nat.le_of_ble_eq_true rfl, xw_t1 23 rfl rfl, Or.inl (xw_t1 21 rfl rfl), xw_t1 22 rfl rfl, xw_t1 1 rfl rfl, rfl, by decide +kernel⟩ ⟨Nat.le_of_ble_eq_true rfl, Nat.le_of_ble_eq_true rfl⟩ (by show 1 ≤ 8; decide) dl_4 e1 ?_
    refine XSim.step (lv' := [(1, .ref s.heap.size), (0, .ref b)]) (st' := []) (nx := 8) ?_ (fun Z H locs ls hl k => lv_astore_n hx hb dl_7 rfl hl (by decide) rfl k)
    refine XSim_new (d := 9) (k := 44) hx hb hK hown hts ⟨_, rfl, rfl, xw_t5 75 rfl rfl, xw_t5 76 rfl rfl, xw_t1 11 rfl rfl⟩ ⟨Nat.le_of_ble_eq_true rfl, Nat.le_of_ble_eq_true rfl⟩ dl_8 ?_
    refine XSim.same (st' := [.ref (s.heap.size + 371), .ref (s.heap.size + 371)]) (nx := 12) ?_ (fun Z H locs ls hl k => lv_dup hx hb dl_11 rfl k)
    refine XSim_cons1 (d := 9) (mc1 := 19) (ms1 := 43418) (f := qM_init) hx hb hml hK hown hts ⟨yX9_init, cX9_init, 1, 1, 21, _, SM_init, rfl, Nat.le_of_ble_eq_true rfl, Nat.le_of_ble_eq_true rfl, xw_t5 79 rfl rfl, Or.inl (xw_t5 77 rfl rfl), xw_t5 78 rfl rfl, xw_t1 11 rfl rfl, rfl, by decide +kernel⟩ ⟨Nat.le_of_ble_eq_true rfl, Nat.le_of_ble_eq_true rfl⟩ (by show 1 ≤ 8; decide) dl_12 e2 ?_
    refine XSim.step (lv' := [(2, .ref (s.heap.size + 371)), (1, .ref s.heap.size), (0, .ref b)]) (st' := []) (nx := 16) ?_ (fun Z H locs ls hl k => lv_astore_n hx hb dl_15 rfl hl (by decide) rfl k)
    refine XSim.same (st' := [.int 0]) (nx := 17) ?_ (fun Z H locs ls hl k => lv_iconst hx hb dl_16 (by decide) k)
    refine XSim.step (lv' := [(3, .int 0), (2, .ref (s.heap.size + 371)), (1, .ref s.heap.size), (0, .ref b)]) (st' := []) (nx := 18) ?_ (fun Z H locs ls hl k => lv_istore_n hx hb dl_17 rfl hl (by decide) rfl k)
    refine XSim.widen (k := 600000) (n := 7302250) (Nat.le_of_ble_eq_true rfl) (Nat.le_of_ble_eq_true rfl) ?_
    rw [e3] at x18
    refine XSim.sub x18 fun ls hl => ⟨hl.1, hl.2.1, fun q hq => hl.2.2 q ?_⟩
    simp only [List.zip_cons_cons, List.zip_nil_right, List.mem_cons, List.not_mem_nil, or_false] at hq ⊢
    rcases hq with rfl | rfl | rfl | rfl <;> simp
  have hl := lv_entry ([Value.ref b]) (n := 8) (Nat.le_of_ble_eq_true rfl)
  rw [lg_entry_eq]
  exact W.mono (fun t ht => ht rfl) (x0 _ h3 rfl s.heap [] _ ⟨hRel, rfl, fun _ _ => rfl, fun q hq => (by cases hq), hStr⟩ hl)
