/-! the law answers 1 -/
def XSem2 : Prop := ∀ (h : XH) (z b L : Nat) (xs : Nat → Int32), L ≤ 3072 → b < z → XLow h z → XInit h b L xs → XDis h → ∃ h1 h2 h3, qD_init z (xhs h z (xobj 8 (xdf 8))) (z + 1) = rV h1 ∧ qM_init (z + 371) (xhs h1 (z + 371) (xobj 9 (xdf 9))) (z + 372) = rV h2 ∧ qL_law_18 LF b z (z + 371) 0 h2 = rI 1 h3
theorem xsem2 : XSem2 := fun h z b L xs hL hb hlow hini hdis => by
  obtain ⟨Y, e1, s0, rfl, hs⟩ := D_made (z := z) (X := h)
  obtain ⟨Y2, e2, m0, rfl, hm⟩ := M_made (y := z + 371) (X := hi z TD h 0 s0) (N := z + 372) (by omega)
  have hGT : GT h z := ⟨⟨fun a _ => hini.1 a, hlow, h, b, L, xs, rfl, hini⟩, hdis⟩
  obtain ⟨n, f, f1, f2, f3⟩ := hini.2.1
  subst f2
  have hScr : Scr h z b (n : Int) xs := ⟨⟨by omega, by omega⟩, hb, ⟨f, by rw [f1]; rfl, fun j hj => f3 j (by omega)⟩, hini.1⟩
  obtain ⟨h3, e3⟩ := law_all (z := z) (b := b) (w := 0) (w' := 0) (s := s0) (m := m0) hGT hScr (Inv_new hs hm)
  exact ⟨_, _, h3, e1, e2, e3⟩
theorem whole_start_of2 (hsem : XSem2) {p : Program} {e : Env} {s : State} {m : MethodId} {below : List Frame} {meth : Method} {c : Code} (l : Launch) (hflags : l.flags = flags0) {b L : Nat} {xs : Nat → Int32} (hL : L ≤ 3072) (C0 : lw_At p s m meth c b L xs) : W p l e room_1 s m #[Value.ref b] below meth c s.heap [] 0 0 (lw_Z below #[Value.ref b] s) (entryFrame m ([Value.ref b] : List Value).toArray 8) := by
  obtain ⟨G, h, hK, hRel, hStr, hIni⟩ := xinit hL C0
  obtain ⟨hx, hb, hr, hml, hown, hts0, hX, hbl, hlocks, hgv⟩ := C0
  have hts : ∀ w ∈ xw, w.before #[Value.ref b] s = true := fun w hw => hts0 w (xm_w hw)
  have hdis : XDis h := fun a n f n' f' ea eb => by
    obtain ⟨_, q1, c1, q2, _, _, _, q3, _⟩ := hRel.2.2.2.1 a n f ea
    obtain ⟨_, r1, c2, r2, _, _, _, r3, _⟩ := hRel.2.2.2.2.1 a n' f' eb
    rw [q2] at r2
    injection r2 with r4
    rw [← r4] at r3
    exact ofNat_inj32 q1 r1 (q3.symm.trans r3)
  obtain ⟨h1, h2, h3, e1, e2, e3⟩ := hsem h s.heap.size b L xs hL hbl ⟨fun a n f e => (hRel.2.2.2.1 a n f e).1, fun a n f e => (hRel.2.2.2.2.1 a n f e).1, fun a F e => (hRel.2.2.2.2.2 a F e).1⟩ hIni hdis
  have hret : XHret p l e room_1 s m #[Value.ref b] below meth c 600000 7302250 (fun rv _ => fun t => rv = some (.int 1) → lw_Z below #[Value.ref b] s t) G s.heap.size (s.heap.size + 391) 8 code 6 := by
    intro pc i st hh rv h' hd hret H locs ls hI
    unfold xret at hret
    split at hret
    · rename_i v
      simp only [show ¬ (6 : Nat) = 1 by decide, if_false, if_true] at hret
      unfold rZ at hret
      split at hret
      · rename_i hv
        cases hret
        by_cases hv1 : v = 1
        · subst hv1
          refine W.mono (fun t ht _ => ht) (va_forget hI.2.2.2.1 (W.base (lw_ret (Drawn.sameBut.refl s.drawn lw_cs) hx hb hr hlocks hd)))
        · intro T hT X
          exact ⟨_, Steps.refl _, fun h => absurd (by simpa using h) hv1⟩
      · cases hret
    · simp at hret
    · simp at hret
    · simp at hret
    · cases hret
  have x18 : XSim p l e room_1 s m #[Value.ref b] below meth c 600000 7302250 (fun rv _ => fun t => rv = some (.int 1) → lw_Z below #[Value.ref b] s t) G s.heap.size (s.heap.size + 391) 8 18 (List.zip [0, 1, 2, 3] [.ref b, .ref s.heap.size, .ref (s.heap.size + 371), .int 0]) [] h2 (qL_law_18 LF b s.heap.size (s.heap.size + 371) 0 h2) :=
    tL_law_18 LF p l e s m #[Value.ref b] below meth c _ G s.heap.size (s.heap.size + 391) ⟨hx, hb, hml, hK, hown, hts, hret⟩ [.ref b, .ref s.heap.size, .ref (s.heap.size + 371), .int 0] [] h2
  have hd : ∀ cc : ByteArray, cc = code → c.code = cc := fun cc hcc => hb.trans hcc.symm
  have x0 : XSim p l e room_1 s m #[Value.ref b] below meth c 0 0 (fun rv _ => fun t => rv = some (.int 1) → lw_Z below #[Value.ref b] s t) G s.heap.size s.heap.size 8 0 [(0, .ref b)] [] h (rI 1 h3) := by
    refine XSim_new (d := 8) (k := 12) hx hb hK hown hts ⟨_, rfl, rfl, xw_t1 19 rfl rfl, xw_t1 20 rfl rfl, xw_t1 1 rfl rfl⟩ ⟨by decide, by decide⟩ dl_0 ?_
    refine XSim.same (st' := [.ref s.heap.size, .ref s.heap.size]) (nx := 4) ?_ (fun Z H locs ls hl k => lv_dup hx hb dl_3 rfl k)
    refine XSim_cons1 (d := 8) (mc1 := 370) (ms1 := 18520) (f := qD_init) hx hb hml hK hown hts ⟨yX8_init, cX8_init, 2, 4, 82, _, SD_init, rfl, Nat.le_of_ble_eq_true rfl, Nat.le_of_ble_eq_true rfl, xw_t1 23 rfl rfl, Or.inl (xw_t1 21 rfl rfl), xw_t1 22 rfl rfl, xw_t1 1 rfl rfl, rfl, by decide +kernel⟩ ⟨Nat.le_of_ble_eq_true rfl, Nat.le_of_ble_eq_true rfl⟩ (by show 1 ≤ 8; decide) dl_4 e1 ?_
    refine XSim.step (lv' := [(1, .ref s.heap.size), (0, .ref b)]) (st' := []) (nx := 8) ?_ (fun Z H locs ls hl k => lv_astore_n hx hb dl_7 rfl hl (by decide) rfl k)
    refine XSim_new (d := 9) (k := 44) hx hb hK hown hts ⟨_, rfl, rfl, xw_t5 75 rfl rfl, xw_t5 76 rfl rfl, xw_t1 11 rfl rfl⟩ ⟨Nat.le_of_ble_eq_true rfl, Nat.le_of_ble_eq_true rfl⟩ dl_8 ?_
    refine XSim.same (st' := [.ref (s.heap.size + 371), .ref (s.heap.size + 371)]) (nx := 12) ?_ (fun Z H locs ls hl k => lv_dup hx hb dl_11 rfl k)
    refine XSim_cons1 (d := 9) (mc1 := 19) (ms1 := 43418) (f := qM_init) hx hb hml hK hown hts ⟨yX9_init, cX9_init, 1, 1, 21, _, SM_init, rfl, Nat.le_of_ble_eq_true rfl, Nat.le_of_ble_eq_true rfl, xw_t5 79 rfl rfl, Or.inl (xw_t5 77 rfl rfl), xw_t5 78 rfl rfl, xw_t1 11 rfl rfl, rfl, by decide +kernel⟩ ⟨Nat.le_of_ble_eq_true rfl, Nat.le_of_ble_eq_true rfl⟩ (by show 1 ≤ 8; decide) dl_12 e2 ?_
    refine XSim.step (lv' := [(2, .ref (s.heap.size + 371)), (1, .ref s.heap.size), (0, .ref b)]) (st' := []) (nx := 16) ?_ (fun Z H locs ls hl k => lv_astore_n hx hb dl_15 rfl hl (by decide) rfl k)
    refine XSim.same (st' := [.int 0]) (nx := 17) ?_ (fun Z H locs ls hl k => lv_iconst hx hb dl_16 (by decide) k)
    refine XSim.step (lv' := [(3, .int 0), (2, .ref (s.heap.size + 371)), (1, .ref s.heap.size), (0, .ref b)]) (st' := []) (nx := 18) ?_ (fun Z H locs ls hl k => lv_istore_n hx hb dl_17 rfl hl (by decide) rfl k)
    refine XSim.widen (k := 600000) (n := 7302250) (Nat.le_of_ble_eq_true rfl) (Nat.le_of_ble_eq_true rfl) ?_
    rw [e3] at x18
    refine XSim.sub x18 fun ls hl => ⟨hl.1, hl.2.1, fun q hq => hl.2.2 q ?_⟩
    simp only [List.zip_cons_cons, List.zip_nil_right, List.mem_cons, List.not_mem_nil, or_false] at hq ⊢
    rcases hq with rfl | rfl | rfl | rfl <;> simp
  have hl := lv_entry ([Value.ref b]) (n := 8) (Nat.le_of_ble_eq_true rfl)
  rw [lg_entry_eq]
  exact W.mono (fun t ht => ht rfl) (x0 _ h3 rfl s.heap [] _ ⟨hRel, rfl, fun _ _ => rfl, fun q hq => (by cases hq), hStr⟩ hl)

theorem whole_start {p : Program} {e : Env} {s : State} {m : MethodId} {below : List Frame} {meth : Method} {c : Code} (l : Launch) (hflags : l.flags = flags0) {b L : Nat} {xs : Nat → Int32} (hL : L ≤ 3072) (C0 : lw_At p s m meth c b L xs) : W p l e room_1 s m #[Value.ref b] below meth c s.heap [] 0 0 (lw_Z below #[Value.ref b] s) (entryFrame m ([Value.ref b] : List Value).toArray 8) := whole_start_of2 xsem2 l hflags hL C0
