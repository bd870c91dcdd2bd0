-- LineDiagramModel.setupLength()I
def rM_setupLength : List (Nat × XRow) := [(0, (.aload_n 0, 1, 0, .null, [])),
  (1, (.iconst (-1), 2, 0, .int (-1 : Int32), [])),
  (2, (.invokevirtual 513, 5, 513, .null, [])),
  (5, (.aload_n 0, 6, 0, .null, [])),
  (6, (.getfield 473, 9, 473, .null, [])),
  (9, (.ireturn, 10, 0, .null, []))]
def mM_setupLength : List (Nat × XM) := [(513, (2, 0, some 9, FM_saysSetup))]
abbrev BM_setupLength : XB := (rM_setupLength, XFT_M, mM_setupLength, 1, XST_M)
set_option maxRecDepth 100000 in
theorem kM_setupLength : XOK BM_setupLength cX9_setupLength 1 RX9 5 112 := xok_of (cps := []) (K := XKT_M) (by decide +kernel) XKT_M_ok (fun _ h => absurd h List.not_mem_nil) XFT_M_ok (List.forall_mem_cons.mpr ⟨⟨_, _, _, _, _, _, _, SM_saysSetup, rfl, rfl, Nat.le_of_ble_eq_true rfl, Nat.le_of_ble_eq_true rfl, cdM_saysSetup, lkM_513, imM_saysSetup, slM_saysSetup, inM_saysSetup, pmM_saysSetup⟩, fun _ h => absurd h List.not_mem_nil⟩) XST_M_ok
def wM_setupLength (f : Nat → XH → XR) : List Value → List Value → XH → XR := fun vs st h => match vs, st with
  | [.ref a0], [] => f a0 h
  | _, _ => none
set_option maxRecDepth 100000 in
theorem eM_setupLength (a0 : Nat) (h : XH) : qM_setupLength a0 h = xrun BM_setupLength (xfind []) 9 0 (List.zip [0] [.ref a0]) [] h := rfl
theorem tM_setupLength : XTo cX9_setupLength 1 RX9 1 5 112 0 [0] (wM_setupLength (qM_setupLength)) := by
  refine XTo.run (B := BM_setupLength) (cut := xfind []) kM_setupLength (xcuts_ok (fun _ h => absurd h List.not_mem_nil)) 9 (fun vs st h r hr => ?_)
  unfold wM_setupLength at hr
  split at hr
  · exact (eM_setupLength _ _).symm.trans hr
  · cases hr
def FM_setupLength : List Value → XH → XR := fun vs h => match vs with
  | [.ref a0] => qM_setupLength a0 h
  | _ => none
theorem SM_setupLength : XS yX9_setupLength cX9_setupLength 1 (some .int) (xrm 5 112) FM_setupLength := by
  refine XS.of (own := RX9) (by decide) rfl (rk := 1) rfl (tM_setupLength) (fun vs h r hr => ?_)
  unfold FM_setupLength at hr
  split at hr
  · exact ⟨rfl, Nat.le_of_ble_eq_true rfl, hr⟩
  · cases hr
-- LineDiagramModel.setupByte(I)I
def rM_setupByte : List (Nat × XRow) := [(0, (.iload_n 1, 1, 1, .null, [])),
  (1, (.ifCond .ge 5, 4, 6, .null, [])),
  (4, (.iconst (-1), 5, 0, .int (-1 : Int32), [])),
  (5, (.ireturn, 6, 0, .null, [])),
  (6, (.aload_n 0, 7, 0, .null, [])),
  (7, (.iload_n 1, 8, 1, .null, [])),
  (8, (.invokevirtual 513, 11, 513, .null, [])),
  (11, (.aload_n 0, 12, 0, .null, [])),
  (12, (.getfield 479, 15, 479, .null, [])),
  (15, (.ireturn, 16, 0, .null, []))]
def mM_setupByte : List (Nat × XM) := [(513, (2, 0, some 9, FM_saysSetup))]
abbrev BM_setupByte : XB := (rM_setupByte, XFT_M, mM_setupByte, 1, XST_M)
set_option maxRecDepth 100000 in
theorem kM_setupByte : XOK BM_setupByte cX9_setupByte 2 RX9 5 112 := xok_of (cps := []) (K := XKT_M) (by decide +kernel) XKT_M_ok (fun _ h => absurd h List.not_mem_nil) XFT_M_ok (List.forall_mem_cons.mpr ⟨⟨_, _, _, _, _, _, _, SM_saysSetup, rfl, rfl, Nat.le_of_ble_eq_true rfl, Nat.le_of_ble_eq_true rfl, cdM_saysSetup, lkM_513, imM_saysSetup, slM_saysSetup, inM_saysSetup, pmM_saysSetup⟩, fun _ h => absurd h List.not_mem_nil⟩) XST_M_ok
def wM_setupByte (f : Nat → Int32 → XH → XR) : List Value → List Value → XH → XR := fun vs st h => match vs, st with
  | [.ref a0, .int x1], [] => f a0 x1 h
  | _, _ => none
set_option maxRecDepth 100000 in
theorem eM_setupByte (a0 : Nat) (x1 : Int32) (h : XH) : qM_setupByte a0 x1 h = xrun BM_setupByte (xfind []) 13 0 (List.zip [0, 1] [.ref a0, .int x1]) [] h := rfl
theorem tM_setupByte : XTo cX9_setupByte 2 RX9 1 5 112 0 [0, 1] (wM_setupByte (qM_setupByte)) := by
  refine XTo.run (B := BM_setupByte) (cut := xfind []) kM_setupByte (xcuts_ok (fun _ h => absurd h List.not_mem_nil)) 13 (fun vs st h r hr => ?_)
  unfold wM_setupByte at hr
  split at hr
  · exact (eM_setupByte _ _ _).symm.trans hr
  · cases hr
def FM_setupByte : List Value → XH → XR := fun vs h => match vs with
  | [.ref a0, .int x1] => qM_setupByte a0 x1 h
  | _ => none
theorem SM_setupByte : XS yX9_setupByte cX9_setupByte 2 (some .int) (xrm 5 112) FM_setupByte := by
  refine XS.of (own := RX9) (by decide) rfl (rk := 1) rfl (tM_setupByte) (fun vs h r hr => ?_)
  unfold FM_setupByte at hr
  split at hr
  · exact ⟨rfl, Nat.le_of_ble_eq_true rfl, hr⟩
  · cases hr
-- LineDiagram.tapeLength()I
def rD_tapeLength : List (Nat × XRow) := [(0, (.aload_n 0, 1, 0, .null, [])),
  (1, (.getfield 10, 4, 10, .null, [])),
  (4, (.getfield 83, 7, 83, .null, [])),
  (7, (.ireturn, 8, 0, .null, []))]
def mD_tapeLength : List (Nat × XM) := []
abbrev BD_tapeLength : XB := (rD_tapeLength, XFT_D, mD_tapeLength, 1, XST_D)
set_option maxRecDepth 100000 in
theorem kD_tapeLength : XOK BD_tapeLength cX8_tapeLength 1 RX8 0 0 := xok_of (cps := []) (K := XKT_D) (by decide +kernel) XKT_D_ok (fun _ h => absurd h List.not_mem_nil) XFT_D_ok (fun _ h => absurd h List.not_mem_nil) XST_D_ok
def wD_tapeLength (f : Nat → XH → XR) : List Value → List Value → XH → XR := fun vs st h => match vs, st with
  | [.ref a0], [] => f a0 h
  | _, _ => none
set_option maxRecDepth 100000 in
theorem eD_tapeLength (a0 : Nat) (h : XH) : qD_tapeLength a0 h = xrun BD_tapeLength (xfind []) 7 0 (List.zip [0] [.ref a0]) [] h := rfl
theorem tD_tapeLength : XTo cX8_tapeLength 1 RX8 1 0 0 0 [0] (wD_tapeLength (qD_tapeLength)) := by
  refine XTo.run (B := BD_tapeLength) (cut := xfind []) kD_tapeLength (xcuts_ok (fun _ h => absurd h List.not_mem_nil)) 7 (fun vs st h r hr => ?_)
  unfold wD_tapeLength at hr
  split at hr
  · exact (eD_tapeLength _ _).symm.trans hr
  · cases hr
def FD_tapeLength : List Value → XH → XR := fun vs h => match vs with
  | [.ref a0] => qD_tapeLength a0 h
  | _ => none
theorem SD_tapeLength : XS yX8_tapeLength cX8_tapeLength 1 (some .int) (xrm 0 0) FD_tapeLength := by
  refine XS.of (own := RX8) (by decide) rfl (rk := 1) rfl (tD_tapeLength) (fun vs h r hr => ?_)
  unfold FD_tapeLength at hr
  split at hr
  · exact ⟨rfl, Nat.le_of_ble_eq_true rfl, hr⟩
  · cases hr
-- LineDiagramModel.tapeLength()I
def rM_tapeLength : List (Nat × XRow) := [(0, (.aload_n 0, 1, 0, .null, [])),
  (1, (.getfield 211, 4, 211, .null, [])),
  (4, (.ireturn, 5, 0, .null, []))]
def mM_tapeLength : List (Nat × XM) := []
abbrev BM_tapeLength : XB := (rM_tapeLength, XFT_M, mM_tapeLength, 1, XST_M)
set_option maxRecDepth 100000 in
theorem kM_tapeLength : XOK BM_tapeLength cX9_tapeLength 1 RX9 0 0 := xok_of (cps := []) (K := XKT_M) (by decide +kernel) XKT_M_ok (fun _ h => absurd h List.not_mem_nil) XFT_M_ok (fun _ h => absurd h List.not_mem_nil) XST_M_ok
def wM_tapeLength (f : Nat → XH → XR) : List Value → List Value → XH → XR := fun vs st h => match vs, st with
  | [.ref a0], [] => f a0 h
  | _, _ => none
set_option maxRecDepth 100000 in
theorem eM_tapeLength (a0 : Nat) (h : XH) : qM_tapeLength a0 h = xrun BM_tapeLength (xfind []) 6 0 (List.zip [0] [.ref a0]) [] h := rfl
theorem tM_tapeLength : XTo cX9_tapeLength 1 RX9 1 0 0 0 [0] (wM_tapeLength (qM_tapeLength)) := by
  refine XTo.run (B := BM_tapeLength) (cut := xfind []) kM_tapeLength (xcuts_ok (fun _ h => absurd h List.not_mem_nil)) 6 (fun vs st h r hr => ?_)
  unfold wM_tapeLength at hr
  split at hr
  · exact (eM_tapeLength _ _).symm.trans hr
  · cases hr
def FM_tapeLength : List Value → XH → XR := fun vs h => match vs with
  | [.ref a0] => qM_tapeLength a0 h
  | _ => none
theorem SM_tapeLength : XS yX9_tapeLength cX9_tapeLength 1 (some .int) (xrm 0 0) FM_tapeLength := by
  refine XS.of (own := RX9) (by decide) rfl (rk := 1) rfl (tM_tapeLength) (fun vs h r hr => ?_)
  unfold FM_tapeLength at hr
  split at hr
  · exact ⟨rfl, Nat.le_of_ble_eq_true rfl, hr⟩
  · cases hr
