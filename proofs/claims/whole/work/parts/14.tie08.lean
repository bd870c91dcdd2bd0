-- LineDiagramModel.py(II)I
def rM_py : List (Nat × XRow) := [(0, (.aload_n 0, 1, 0, .null, [])),
  (1, (.iload_n 1, 2, 1, .null, [])),
  (2, (.iconst 3, 3, 0, .int (3 : Int32), [])),
  (3, (.iconst 2, 4, 0, .int (2 : Int32), [])),
  (4, (.iload_n 2, 5, 2, .null, [])),
  (5, (.imul, 6, 0, .null, [])),
  (6, (.iadd, 7, 0, .null, [])),
  (7, (.iconst 1, 8, 0, .int (1 : Int32), [])),
  (8, (.iadd, 9, 0, .null, [])),
  (9, (.invokevirtual 88, 12, 88, .null, [])),
  (12, (.ireturn, 13, 0, .null, []))]
def mM_py : List (Nat × XM) := [(88, (3, 1, some 9, FM_of))]
abbrev BM_py : XB := (rM_py, XFT_M, mM_py, 1, XST_M)
set_option maxRecDepth 100000 in
theorem kM_py : XOK BM_py cX9_py 3 RX9 1 22 := xok_of (cps := []) (K := XKT_M) (by decide +kernel) XKT_M_ok (fun _ h => absurd h List.not_mem_nil) XFT_M_ok (List.forall_mem_cons.mpr ⟨⟨_, _, _, _, _, _, _, SM_of, rfl, rfl, Nat.le_of_ble_eq_true rfl, Nat.le_of_ble_eq_true rfl, cdM_of, lkM_88, imM_of, slM_of, inM_of, pmM_of⟩, fun _ h => absurd h List.not_mem_nil⟩) XST_M_ok
def wM_py (f : Nat → Int32 → Int32 → XH → XR) : List Value → List Value → XH → XR := fun vs st h => match vs, st with
  | [.ref a0, .int x1, .int x2], [] => f a0 x1 x2 h
  | _, _ => none
set_option maxRecDepth 100000 in
theorem eM_py (a0 : Nat) (x1 : Int32) (x2 : Int32) (h : XH) : qM_py a0 x1 x2 h = xrun BM_py (xfind []) 14 0 (List.zip [0, 1, 2] [.ref a0, .int x1, .int x2]) [] h := rfl
theorem tM_py : XTo cX9_py 3 RX9 1 1 22 0 [0, 1, 2] (wM_py (qM_py)) := by
  refine XTo.run (B := BM_py) (cut := xfind []) kM_py (xcuts_ok (fun _ h => absurd h List.not_mem_nil)) 14 (fun vs st h r hr => ?_)
  unfold wM_py at hr
  split at hr
  · exact (eM_py _ _ _ _).symm.trans hr
  · cases hr
def FM_py : List Value → XH → XR := fun vs h => match vs with
  | [.ref a0, .int x1, .int x2] => qM_py a0 x1 x2 h
  | _ => none
theorem SM_py : XS yX9_py cX9_py 3 (some .int) (xrm 1 22) FM_py := by
  refine XS.of (own := RX9) (by decide) rfl (rk := 1) rfl (tM_py) (fun vs h r hr => ?_)
  unfold FM_py at hr
  split at hr
  · exact ⟨rfl, Nat.le_of_ble_eq_true rfl, hr⟩
  · cases hr
-- LineDiagramModel.isLine(I)Z
def rM_isLine : List (Nat × XRow) := [(0, (.iload_n 1, 1, 1, .null, [])),
  (1, (.i2l, 2, 0, .null, [])),
  (2, (.lconst 0, 3, 0, .long (0 : Int64), [])),
  (3, (.aload_n 0, 4, 0, .null, [])),
  (4, (.getfield 100, 7, 100, .null, [])),
  (7, (.iconst 1, 8, 0, .int (1 : Int32), [])),
  (8, (.isub, 9, 0, .null, [])),
  (9, (.i2l, 10, 0, .null, [])),
  (10, (.invokestatic 96, 13, 96, .null, [])),
  (13, (.ireturn, 14, 0, .null, []))]
def mM_isLine : List (Nat × XM) := [(96, (3, 1, none, FM_in))]
abbrev BM_isLine : XB := (rM_isLine, XFT_M, mM_isLine, 6, XST_M)
set_option maxRecDepth 100000 in
theorem kM_isLine : XOK BM_isLine cX9_isLine 2 RX9 1 25 := xok_of (cps := []) (K := XKT_M) (by decide +kernel) XKT_M_ok (fun _ h => absurd h List.not_mem_nil) XFT_M_ok (List.forall_mem_cons.mpr ⟨⟨_, _, _, _, _, _, SM_in, Nat.le_of_ble_eq_true rfl, Nat.le_of_ble_eq_true rfl, cdM_in, lkM_96, imM_in, inM_in, pmM_in⟩, fun _ h => absurd h List.not_mem_nil⟩) XST_M_ok
def wM_isLine (f : Nat → Int32 → XH → XR) : List Value → List Value → XH → XR := fun vs st h => match vs, st with
  | [.ref a0, .int x1], [] => f a0 x1 h
  | _, _ => none
set_option maxRecDepth 100000 in
theorem eM_isLine (a0 : Nat) (x1 : Int32) (h : XH) : qM_isLine a0 x1 h = xrun BM_isLine (xfind []) 13 0 (List.zip [0, 1] [.ref a0, .int x1]) [] h := rfl
theorem tM_isLine : XTo cX9_isLine 2 RX9 6 1 25 0 [0, 1] (wM_isLine (qM_isLine)) := by
  refine XTo.run (B := BM_isLine) (cut := xfind []) kM_isLine (xcuts_ok (fun _ h => absurd h List.not_mem_nil)) 13 (fun vs st h r hr => ?_)
  unfold wM_isLine at hr
  split at hr
  · exact (eM_isLine _ _ _).symm.trans hr
  · cases hr
def FM_isLine : List Value → XH → XR := fun vs h => match vs with
  | [.ref a0, .int x1] => qM_isLine a0 x1 h
  | _ => none
theorem SM_isLine : XS yX9_isLine cX9_isLine 2 (some .boolean) (xrm 1 25) FM_isLine := by
  refine XS.of (own := RX9) (by decide) rfl (rk := 6) rfl (tM_isLine) (fun vs h r hr => ?_)
  unfold FM_isLine at hr
  split at hr
  · exact ⟨rfl, Nat.le_of_ble_eq_true rfl, hr⟩
  · cases hr
-- LineDiagramModel.isPoint(II)Z
def rM_isPoint : List (Nat × XRow) := [(0, (.aload_n 0, 1, 0, .null, [])),
  (1, (.iload_n 1, 2, 1, .null, [])),
  (2, (.invokevirtual 103, 5, 103, .null, [])),
  (5, (.ifCond .eq 25, 8, 30, .null, [])),
  (8, (.iload_n 2, 9, 2, .null, [])),
  (9, (.i2l, 10, 0, .null, [])),
  (10, (.lconst 0, 11, 0, .long (0 : Int64), [])),
  (11, (.aload_n 0, 12, 0, .null, [])),
  (12, (.iload_n 1, 13, 1, .null, [])),
  (13, (.iconst 2, 14, 0, .int (2 : Int32), [])),
  (14, (.invokevirtual 88, 17, 88, .null, [])),
  (17, (.iconst 1, 18, 0, .int (1 : Int32), [])),
  (18, (.isub, 19, 0, .null, [])),
  (19, (.i2l, 20, 0, .null, [])),
  (20, (.invokestatic 96, 23, 96, .null, [])),
  (23, (.ifCond .eq 7, 26, 30, .null, [])),
  (26, (.iconst 1, 27, 0, .int (1 : Int32), [])),
  (27, (.goto 4, 30, 31, .null, [])),
  (30, (.iconst 0, 31, 0, .int (0 : Int32), [])),
  (31, (.ireturn, 32, 0, .null, []))]
def mM_isPoint : List (Nat × XM) := [(88, (3, 1, some 9, FM_of)), (96, (3, 1, none, FM_in)), (103, (2, 1, some 9, FM_isLine))]
abbrev BM_isPoint : XB := (rM_isPoint, XFT_M, mM_isPoint, 6, XST_M)
set_option maxRecDepth 100000 in
theorem kM_isPoint : XOK BM_isPoint cX9_isPoint 3 RX9 2 46 := xok_of (cps := []) (K := XKT_M) (by decide +kernel) XKT_M_ok (fun _ h => absurd h List.not_mem_nil) XFT_M_ok (List.forall_mem_cons.mpr ⟨⟨_, _, _, _, _, _, _, SM_of, rfl, rfl, Nat.le_of_ble_eq_true rfl, Nat.le_of_ble_eq_true rfl, cdM_of, lkM_88, imM_of, slM_of, inM_of, pmM_of⟩, List.forall_mem_cons.mpr ⟨⟨_, _, _, _, _, _, SM_in, Nat.le_of_ble_eq_true rfl, Nat.le_of_ble_eq_true rfl, cdM_in, lkM_96, imM_in, inM_in, pmM_in⟩, List.forall_mem_cons.mpr ⟨⟨_, _, _, _, _, _, _, SM_isLine, rfl, rfl, Nat.le_of_ble_eq_true rfl, Nat.le_of_ble_eq_true rfl, cdM_isLine, lkM_103, imM_isLine, slM_isLine, inM_isLine, pmM_isLine⟩, fun _ h => absurd h List.not_mem_nil⟩⟩⟩) XST_M_ok
def wM_isPoint (f : Nat → Int32 → Int32 → XH → XR) : List Value → List Value → XH → XR := fun vs st h => match vs, st with
  | [.ref a0, .int x1, .int x2], [] => f a0 x1 x2 h
  | _, _ => none
set_option maxRecDepth 100000 in
theorem eM_isPoint (a0 : Nat) (x1 : Int32) (x2 : Int32) (h : XH) : qM_isPoint a0 x1 x2 h = xrun BM_isPoint (xfind []) 23 0 (List.zip [0, 1, 2] [.ref a0, .int x1, .int x2]) [] h := rfl
theorem tM_isPoint : XTo cX9_isPoint 3 RX9 6 2 46 0 [0, 1, 2] (wM_isPoint (qM_isPoint)) := by
  refine XTo.run (B := BM_isPoint) (cut := xfind []) kM_isPoint (xcuts_ok (fun _ h => absurd h List.not_mem_nil)) 23 (fun vs st h r hr => ?_)
  unfold wM_isPoint at hr
  split at hr
  · exact (eM_isPoint _ _ _ _).symm.trans hr
  · cases hr
def FM_isPoint : List Value → XH → XR := fun vs h => match vs with
  | [.ref a0, .int x1, .int x2] => qM_isPoint a0 x1 x2 h
  | _ => none
theorem SM_isPoint : XS yX9_isPoint cX9_isPoint 3 (some .boolean) (xrm 2 46) FM_isPoint := by
  refine XS.of (own := RX9) (by decide) rfl (rk := 6) rfl (tM_isPoint) (fun vs h r hr => ?_)
  unfold FM_isPoint at hr
  split at hr
  · exact ⟨rfl, Nat.le_of_ble_eq_true rfl, hr⟩
  · cases hr
-- LineDiagramModel.isCell(II)Z
def rM_isCell : List (Nat × XRow) := [(0, (.iload_n 1, 1, 1, .null, [])),
  (1, (.i2l, 2, 0, .null, [])),
  (2, (.lconst 0, 3, 0, .long (0 : Int64), [])),
  (3, (.aload_n 0, 4, 0, .null, [])),
  (4, (.getfield 73, 7, 73, .null, [])),
  (7, (.iconst 1, 8, 0, .int (1 : Int32), [])),
  (8, (.isub, 9, 0, .null, [])),
  (9, (.i2l, 10, 0, .null, [])),
  (10, (.invokestatic 96, 13, 96, .null, [])),
  (13, (.ifCond .eq 23, 16, 36, .null, [])),
  (16, (.iload_n 2, 17, 2, .null, [])),
  (17, (.i2l, 18, 0, .null, [])),
  (18, (.lconst 0, 19, 0, .long (0 : Int64), [])),
  (19, (.aload_n 0, 20, 0, .null, [])),
  (20, (.getfield 76, 23, 76, .null, [])),
  (23, (.iconst 1, 24, 0, .int (1 : Int32), [])),
  (24, (.isub, 25, 0, .null, [])),
  (25, (.i2l, 26, 0, .null, [])),
  (26, (.invokestatic 96, 29, 96, .null, [])),
  (29, (.ifCond .eq 7, 32, 36, .null, [])),
  (32, (.iconst 1, 33, 0, .int (1 : Int32), [])),
  (33, (.goto 4, 36, 37, .null, [])),
  (36, (.iconst 0, 37, 0, .int (0 : Int32), [])),
  (37, (.ireturn, 38, 0, .null, []))]
def mM_isCell : List (Nat × XM) := [(96, (3, 1, none, FM_in))]
abbrev BM_isCell : XB := (rM_isCell, XFT_M, mM_isCell, 6, XST_M)
set_option maxRecDepth 100000 in
theorem kM_isCell : XOK BM_isCell cX9_isCell 3 RX9 1 25 := xok_of (cps := []) (K := XKT_M) (by decide +kernel) XKT_M_ok (fun _ h => absurd h List.not_mem_nil) XFT_M_ok (List.forall_mem_cons.mpr ⟨⟨_, _, _, _, _, _, SM_in, Nat.le_of_ble_eq_true rfl, Nat.le_of_ble_eq_true rfl, cdM_in, lkM_96, imM_in, inM_in, pmM_in⟩, fun _ h => absurd h List.not_mem_nil⟩) XST_M_ok
def wM_isCell (f : Nat → Int32 → Int32 → XH → XR) : List Value → List Value → XH → XR := fun vs st h => match vs, st with
  | [.ref a0, .int x1, .int x2], [] => f a0 x1 x2 h
  | _, _ => none
set_option maxRecDepth 100000 in
theorem eM_isCell (a0 : Nat) (x1 : Int32) (x2 : Int32) (h : XH) : qM_isCell a0 x1 x2 h = xrun BM_isCell (xfind []) 27 0 (List.zip [0, 1, 2] [.ref a0, .int x1, .int x2]) [] h := rfl
theorem tM_isCell : XTo cX9_isCell 3 RX9 6 1 25 0 [0, 1, 2] (wM_isCell (qM_isCell)) := by
  refine XTo.run (B := BM_isCell) (cut := xfind []) kM_isCell (xcuts_ok (fun _ h => absurd h List.not_mem_nil)) 27 (fun vs st h r hr => ?_)
  unfold wM_isCell at hr
  split at hr
  · exact (eM_isCell _ _ _ _).symm.trans hr
  · cases hr
def FM_isCell : List Value → XH → XR := fun vs h => match vs with
  | [.ref a0, .int x1, .int x2] => qM_isCell a0 x1 x2 h
  | _ => none
theorem SM_isCell : XS yX9_isCell cX9_isCell 3 (some .boolean) (xrm 1 25) FM_isCell := by
  refine XS.of (own := RX9) (by decide) rfl (rk := 6) rfl (tM_isCell) (fun vs h r hr => ?_)
  unfold FM_isCell at hr
  split at hr
  · exact ⟨rfl, Nat.le_of_ble_eq_true rfl, hr⟩
  · cases hr
-- LineDiagramModel.moveFault(IIII)I
def rM_moveFault : List (Nat × XRow) := [(0, (.aload_n 0, 1, 0, .null, [])),
  (1, (.iload_n 1, 2, 1, .null, [])),
  (2, (.iload_n 2, 3, 2, .null, [])),
  (3, (.invokevirtual 343, 6, 343, .null, [])),
  (6, (.ifCond .eq 13, 9, 19, .null, [])),
  (9, (.aload_n 0, 10, 0, .null, [])),
  (10, (.iload_n 3, 11, 3, .null, [])),
  (11, (.iload 4, 13, 4, .null, [])),
  (13, (.invokevirtual 346, 16, 346, .null, [])),
  (16, (.ifCond .ne 5, 19, 21, .null, [])),
  (19, (.iconst (-1), 20, 0, .int (-1 : Int32), [])),
  (20, (.ireturn, 21, 0, .null, [])),
  (21, (.aload_n 0, 22, 0, .null, [])),
  (22, (.iload_n 1, 23, 1, .null, [])),
  (23, (.iload_n 2, 24, 2, .null, [])),
  (24, (.invokevirtual 120, 27, 120, .null, [])),
  (27, (.iload_n 3, 28, 3, .null, [])),
  (28, (.if_icmp .ne 19, 31, 47, .null, [])),
  (31, (.aload_n 0, 32, 0, .null, [])),
  (32, (.iload_n 1, 33, 1, .null, [])),
  (33, (.iload_n 2, 34, 2, .null, [])),
  (34, (.invokevirtual 123, 37, 123, .null, [])),
  (37, (.iload 4, 39, 4, .null, [])),
  (39, (.if_icmp .ne 8, 42, 47, .null, [])),
  (42, (.bipush (-2), 44, 0, .int (-2 : Int32), [])),
  (44, (.goto 4, 47, 48, .null, [])),
  (47, (.iconst 0, 48, 0, .int (0 : Int32), [])),
  (48, (.ireturn, 49, 0, .null, []))]
def mM_moveFault : List (Nat × XM) := [(120, (3, 1, some 9, FM_px)), (123, (3, 1, some 9, FM_py)), (343, (3, 1, some 9, FM_isPoint)), (346, (3, 1, some 9, FM_isCell))]
abbrev BM_moveFault : XB := (rM_moveFault, XFT_M, mM_moveFault, 1, XST_M)
set_option maxRecDepth 100000 in
theorem kM_moveFault : XOK BM_moveFault cX9_moveFault 5 RX9 3 68 := xok_of (cps := []) (K := XKT_M) (by decide +kernel) XKT_M_ok (fun _ h => absurd h List.not_mem_nil) XFT_M_ok (List.forall_mem_cons.mpr ⟨⟨_, _, _, _, _, _, _, SM_px, rfl, rfl, Nat.le_of_ble_eq_true rfl, Nat.le_of_ble_eq_true rfl, cdM_px, lkM_120, imM_px, slM_px, inM_px, pmM_px⟩, List.forall_mem_cons.mpr ⟨⟨_, _, _, _, _, _, _, SM_py, rfl, rfl, Nat.le_of_ble_eq_true rfl, Nat.le_of_ble_eq_true rfl, cdM_py, lkM_123, imM_py, slM_py, inM_py, pmM_py⟩, List.forall_mem_cons.mpr ⟨⟨_, _, _, _, _, _, _, SM_isPoint, rfl, rfl, Nat.le_of_ble_eq_true rfl, Nat.le_of_ble_eq_true rfl, cdM_isPoint, lkM_343, imM_isPoint, slM_isPoint, inM_isPoint, pmM_isPoint⟩, List.forall_mem_cons.mpr ⟨⟨_, _, _, _, _, _, _, SM_isCell, rfl, rfl, Nat.le_of_ble_eq_true rfl, Nat.le_of_ble_eq_true rfl, cdM_isCell, lkM_346, imM_isCell, slM_isCell, inM_isCell, pmM_isCell⟩, fun _ h => absurd h List.not_mem_nil⟩⟩⟩⟩) XST_M_ok
def wM_moveFault (f : Nat → Int32 → Int32 → Int32 → Int32 → XH → XR) : List Value → List Value → XH → XR := fun vs st h => match vs, st with
  | [.ref a0, .int x1, .int x2, .int x3, .int x4], [] => f a0 x1 x2 x3 x4 h
  | _, _ => none
set_option maxRecDepth 100000 in
theorem eM_moveFault (a0 : Nat) (x1 : Int32) (x2 : Int32) (x3 : Int32) (x4 : Int32) (h : XH) : qM_moveFault a0 x1 x2 x3 x4 h = xrun BM_moveFault (xfind []) 31 0 (List.zip [0, 1, 2, 3, 4] [.ref a0, .int x1, .int x2, .int x3, .int x4]) [] h := rfl
theorem tM_moveFault : XTo cX9_moveFault 5 RX9 1 3 68 0 [0, 1, 2, 3, 4] (wM_moveFault (qM_moveFault)) := by
  refine XTo.run (B := BM_moveFault) (cut := xfind []) kM_moveFault (xcuts_ok (fun _ h => absurd h List.not_mem_nil)) 31 (fun vs st h r hr => ?_)
  unfold wM_moveFault at hr
  split at hr
  · exact (eM_moveFault _ _ _ _ _ _).symm.trans hr
  · cases hr
def FM_moveFault : List Value → XH → XR := fun vs h => match vs with
  | [.ref a0, .int x1, .int x2, .int x3, .int x4] => qM_moveFault a0 x1 x2 x3 x4 h
  | _ => none
theorem SM_moveFault : XS yX9_moveFault cX9_moveFault 5 (some .int) (xrm 3 68) FM_moveFault := by
  refine XS.of (own := RX9) (by decide) rfl (rk := 1) rfl (tM_moveFault) (fun vs h r hr => ?_)
  unfold FM_moveFault at hr
  split at hr
  · exact ⟨rfl, Nat.le_of_ble_eq_true rfl, hr⟩
  · cases hr
-- LineDiagramModel.thinks()V
def rM_thinks : List (Nat × XRow) := [(0, (.iconst 0, 1, 0, .int (0 : Int32), [])),
  (1, (.istore_n 1, 2, 1, .null, [])),
  (2, (.iload_n 1, 3, 1, .null, [])),
  (3, (.sipush 1784, 6, 0, .int (1784 : Int32), [])),
  (6, (.if_icmp .ge 21, 9, 27, .null, [])),
  (9, (.aload_n 0, 10, 0, .null, [])),
  (10, (.getfield 24, 13, 24, .null, [])),
  (13, (.iload_n 1, 14, 1, .null, [])),
  (14, (.aload_n 0, 15, 0, .null, [])),
  (15, (.getfield 21, 18, 21, .null, [])),
  (18, (.iload_n 1, 19, 1, .null, [])),
  (19, (.iaload, 20, 0, .null, [])),
  (20, (.iastore, 21, 0, .null, [])),
  (21, (.iinc 1 1, 24, 1, .int (1 : Int32), [])),
  (24, (.goto (-22), 27, 2, .null, [])),
  (27, (.return_, 28, 0, .null, []))]
def mM_thinks : List (Nat × XM) := []
abbrev BM_thinks : XB := (rM_thinks, XFT_M, mM_thinks, 0, XST_M)
set_option maxRecDepth 100000 in
theorem kM_thinks : XOK BM_thinks cX9_thinks 2 RX9 0 0 := xok_of (cps := []) (K := XKT_M) (by decide +kernel) XKT_M_ok (fun _ h => absurd h List.not_mem_nil) XFT_M_ok (fun _ h => absurd h List.not_mem_nil) XST_M_ok
def wM_thinks_2 (f : Nat → Int32 → XH → XR) : List Value → List Value → XH → XR := fun vs st h => match vs, st with
  | [.ref a0, .int x1], [] => f a0 x1 h
  | _, _ => none
def wM_thinks (f : Nat → XH → XR) : List Value → List Value → XH → XR := fun vs st h => match vs, st with
  | [.ref a0], [] => f a0 h
  | _, _ => none
set_option maxRecDepth 100000 in
theorem eM_thinks_2_b (k2 : Nat → Int32 → XH → XR) (a0 : Nat) (x1 : Int32) (h : XH) : qM_thinks_2_b k2 a0 x1 h = xrun BM_thinks (xfind [(2, ([0, 1], wM_thinks_2 (k2)))]) 19 2 (List.zip [0, 1] [.ref a0, .int x1]) [] h := rfl
theorem tM_thinks_2_b {k2 : Nat → Int32 → XH → XR} (hk2 : XTo cX9_thinks 2 RX9 0 0 0 2 [0, 1] (wM_thinks_2 k2)) : XTo cX9_thinks 2 RX9 0 0 0 2 [0, 1] (wM_thinks_2 (qM_thinks_2_b k2)) := by
  refine XTo.run (B := BM_thinks) (cut := xfind [(2, ([0, 1], wM_thinks_2 (k2)))]) kM_thinks (xcuts_ok (List.forall_mem_cons.mpr ⟨hk2, fun _ h => absurd h List.not_mem_nil⟩)) 19 (fun vs st h r hr => ?_)
  unfold wM_thinks_2 at hr
  split at hr
  · exact (eM_thinks_2_b k2 _ _ _).symm.trans hr
  · cases hr
theorem tM_thinks_2 : ∀ n : Nat, XTo cX9_thinks 2 RX9 0 0 0 2 [0, 1] (wM_thinks_2 (qM_thinks_2 n)) := by
  intro n
  induction n with
  | zero =>
    refine XTo.none fun vs st h => ?_
    unfold wM_thinks_2
    split <;> rfl
  | succ n ih => exact tM_thinks_2_b  ih
set_option maxRecDepth 100000 in
theorem eM_thinks (a0 : Nat) (h : XH) : qM_thinks a0 h = xrun BM_thinks (xfind [(2, ([0, 1], wM_thinks_2 (qM_thinks_2 LF)))]) 19 0 (List.zip [0] [.ref a0]) [] h := rfl
theorem tM_thinks : XTo cX9_thinks 2 RX9 0 0 0 0 [0] (wM_thinks (qM_thinks)) := by
  refine XTo.run (B := BM_thinks) (cut := xfind [(2, ([0, 1], wM_thinks_2 (qM_thinks_2 LF)))]) kM_thinks (xcuts_ok (List.forall_mem_cons.mpr ⟨tM_thinks_2 LF, fun _ h => absurd h List.not_mem_nil⟩)) 19 (fun vs st h r hr => ?_)
  unfold wM_thinks at hr
  split at hr
  · exact (eM_thinks _ _).symm.trans hr
  · cases hr
def FM_thinks : List Value → XH → XR := fun vs h => match vs with
  | [.ref a0] => qM_thinks a0 h
  | _ => none
theorem SM_thinks : XS yX9_thinks cX9_thinks 2 none (xrm 0 0) FM_thinks := by
  refine XS.of (own := RX9) (by decide) rfl (rk := 0) rfl (tM_thinks) (fun vs h r hr => ?_)
  unfold FM_thinks at hr
  split at hr
  · exact ⟨rfl, Nat.le_of_ble_eq_true rfl, hr⟩
  · cases hr
-- LineDiagramModel.puts(III)V
def rM_puts : List (Nat × XRow) := [(0, (.aload_n 0, 1, 0, .null, [])),
  (1, (.getfield 21, 4, 21, .null, [])),
  (4, (.bipush 23, 6, 0, .int (23 : Int32), [])),
  (6, (.iload_n 1, 7, 1, .null, [])),
  (7, (.imul, 8, 0, .null, [])),
  (8, (.iload_n 2, 9, 2, .null, [])),
  (9, (.iadd, 10, 0, .null, [])),
  (10, (.iload_n 3, 11, 3, .null, [])),
  (11, (.iastore, 12, 0, .null, [])),
  (12, (.return_, 13, 0, .null, []))]
def mM_puts : List (Nat × XM) := []
abbrev BM_puts : XB := (rM_puts, XFT_M, mM_puts, 0, XST_M)
set_option maxRecDepth 100000 in
theorem kM_puts : XOK BM_puts cX9_puts 4 RX9 0 0 := xok_of (cps := []) (K := XKT_M) (by decide +kernel) XKT_M_ok (fun _ h => absurd h List.not_mem_nil) XFT_M_ok (fun _ h => absurd h List.not_mem_nil) XST_M_ok
def wM_puts (f : Nat → Int32 → Int32 → Int32 → XH → XR) : List Value → List Value → XH → XR := fun vs st h => match vs, st with
  | [.ref a0, .int x1, .int x2, .int x3], [] => f a0 x1 x2 x3 h
  | _, _ => none
set_option maxRecDepth 100000 in
theorem eM_puts (a0 : Nat) (x1 : Int32) (x2 : Int32) (x3 : Int32) (h : XH) : qM_puts a0 x1 x2 x3 h = xrun BM_puts (xfind []) 13 0 (List.zip [0, 1, 2, 3] [.ref a0, .int x1, .int x2, .int x3]) [] h := rfl
theorem tM_puts : XTo cX9_puts 4 RX9 0 0 0 0 [0, 1, 2, 3] (wM_puts (qM_puts)) := by
  refine XTo.run (B := BM_puts) (cut := xfind []) kM_puts (xcuts_ok (fun _ h => absurd h List.not_mem_nil)) 13 (fun vs st h r hr => ?_)
  unfold wM_puts at hr
  split at hr
  · exact (eM_puts _ _ _ _ _).symm.trans hr
  · cases hr
def FM_puts : List Value → XH → XR := fun vs h => match vs with
  | [.ref a0, .int x1, .int x2, .int x3] => qM_puts a0 x1 x2 x3 h
  | _ => none
theorem SM_puts : XS yX9_puts cX9_puts 4 none (xrm 0 0) FM_puts := by
  refine XS.of (own := RX9) (by decide) rfl (rk := 0) rfl (tM_puts) (fun vs h r hr => ?_)
  unfold FM_puts at hr
  split at hr
  · exact ⟨rfl, Nat.le_of_ble_eq_true rfl, hr⟩
  · cases hr
-- LineDiagramModel.putsPoint(IIII)V
def rM_putsPoint : List (Nat × XRow) := [(0, (.aload_n 0, 1, 0, .null, [])),
  (1, (.iload_n 1, 2, 1, .null, [])),
  (2, (.iconst 3, 3, 0, .int (3 : Int32), [])),
  (3, (.iconst 2, 4, 0, .int (2 : Int32), [])),
  (4, (.iload_n 2, 5, 2, .null, [])),
  (5, (.imul, 6, 0, .null, [])),
  (6, (.iadd, 7, 0, .null, [])),
  (7, (.iload_n 3, 8, 3, .null, [])),
  (8, (.invokevirtual 92, 11, 92, .null, [])),
  (11, (.aload_n 0, 12, 0, .null, [])),
  (12, (.iload_n 1, 13, 1, .null, [])),
  (13, (.iconst 3, 14, 0, .int (3 : Int32), [])),
  (14, (.iconst 2, 15, 0, .int (2 : Int32), [])),
  (15, (.iload_n 2, 16, 2, .null, [])),
  (16, (.imul, 17, 0, .null, [])),
  (17, (.iadd, 18, 0, .null, [])),
  (18, (.iconst 1, 19, 0, .int (1 : Int32), [])),
  (19, (.iadd, 20, 0, .null, [])),
  (20, (.iload 4, 22, 4, .null, [])),
  (22, (.invokevirtual 92, 25, 92, .null, [])),
  (25, (.return_, 26, 0, .null, []))]
def mM_putsPoint : List (Nat × XM) := [(92, (4, 0, some 9, FM_puts))]
abbrev BM_putsPoint : XB := (rM_putsPoint, XFT_M, mM_putsPoint, 0, XST_M)
set_option maxRecDepth 100000 in
theorem kM_putsPoint : XOK BM_putsPoint cX9_putsPoint 5 RX9 1 23 := xok_of (cps := []) (K := XKT_M) (by decide +kernel) XKT_M_ok (fun _ h => absurd h List.not_mem_nil) XFT_M_ok (List.forall_mem_cons.mpr ⟨⟨_, _, _, _, _, _, _, SM_puts, rfl, rfl, Nat.le_of_ble_eq_true rfl, Nat.le_of_ble_eq_true rfl, cdM_puts, lkM_92, imM_puts, slM_puts, inM_puts, pmM_puts⟩, fun _ h => absurd h List.not_mem_nil⟩) XST_M_ok
def wM_putsPoint (f : Nat → Int32 → Int32 → Int32 → Int32 → XH → XR) : List Value → List Value → XH → XR := fun vs st h => match vs, st with
  | [.ref a0, .int x1, .int x2, .int x3, .int x4], [] => f a0 x1 x2 x3 x4 h
  | _, _ => none
set_option maxRecDepth 100000 in
theorem eM_putsPoint (a0 : Nat) (x1 : Int32) (x2 : Int32) (x3 : Int32) (x4 : Int32) (h : XH) : qM_putsPoint a0 x1 x2 x3 x4 h = xrun BM_putsPoint (xfind []) 24 0 (List.zip [0, 1, 2, 3, 4] [.ref a0, .int x1, .int x2, .int x3, .int x4]) [] h := rfl
theorem tM_putsPoint : XTo cX9_putsPoint 5 RX9 0 1 23 0 [0, 1, 2, 3, 4] (wM_putsPoint (qM_putsPoint)) := by
  refine XTo.run (B := BM_putsPoint) (cut := xfind []) kM_putsPoint (xcuts_ok (fun _ h => absurd h List.not_mem_nil)) 24 (fun vs st h r hr => ?_)
  unfold wM_putsPoint at hr
  split at hr
  · exact (eM_putsPoint _ _ _ _ _ _).symm.trans hr
  · cases hr
def FM_putsPoint : List Value → XH → XR := fun vs h => match vs with
  | [.ref a0, .int x1, .int x2, .int x3, .int x4] => qM_putsPoint a0 x1 x2 x3 x4 h
  | _ => none
theorem SM_putsPoint : XS yX9_putsPoint cX9_putsPoint 5 none (xrm 1 23) FM_putsPoint := by
  refine XS.of (own := RX9) (by decide) rfl (rk := 0) rfl (tM_putsPoint) (fun vs h r hr => ?_)
  unfold FM_putsPoint at hr
  split at hr
  · exact ⟨rfl, Nat.le_of_ble_eq_true rfl, hr⟩
  · cases hr
-- LineDiagramModel.wayOf(II)I
def rM_wayOf : List (Nat × XRow) := [(0, (.aload_n 0, 1, 0, .null, [])),
  (1, (.iload_n 1, 2, 1, .null, [])),
  (2, (.iload_n 2, 3, 2, .null, [])),
  (3, (.invokevirtual 120, 6, 120, .null, [])),
  (6, (.aload_n 0, 7, 0, .null, [])),
  (7, (.iload_n 1, 8, 1, .null, [])),
  (8, (.iload_n 2, 9, 2, .null, [])),
  (9, (.invokevirtual 123, 12, 123, .null, [])),
  (12, (.aload_n 0, 13, 0, .null, [])),
  (13, (.iload_n 1, 14, 1, .null, [])),
  (14, (.iload_n 2, 15, 2, .null, [])),
  (15, (.iconst 1, 16, 0, .int (1 : Int32), [])),
  (16, (.iadd, 17, 0, .null, [])),
  (17, (.invokevirtual 120, 20, 120, .null, [])),
  (20, (.aload_n 0, 21, 0, .null, [])),
  (21, (.iload_n 1, 22, 1, .null, [])),
  (22, (.iload_n 2, 23, 2, .null, [])),
  (23, (.iconst 1, 24, 0, .int (1 : Int32), [])),
  (24, (.iadd, 25, 0, .null, [])),
  (25, (.invokevirtual 123, 28, 123, .null, [])),
  (28, (.invokestatic 126, 31, 126, .null, [])),
  (31, (.ireturn, 32, 0, .null, []))]
def mM_wayOf : List (Nat × XM) := [(120, (3, 1, some 9, FM_px)), (123, (3, 1, some 9, FM_py)), (126, (4, 1, none, FM_wayTo))]
abbrev BM_wayOf : XB := (rM_wayOf, XFT_M, mM_wayOf, 1, XST_M)
set_option maxRecDepth 100000 in
theorem kM_wayOf : XOK BM_wayOf cX9_wayOf 3 RX9 2 46 := xok_of (cps := []) (K := XKT_M) (by decide +kernel) XKT_M_ok (fun _ h => absurd h List.not_mem_nil) XFT_M_ok (List.forall_mem_cons.mpr ⟨⟨_, _, _, _, _, _, _, SM_px, rfl, rfl, Nat.le_of_ble_eq_true rfl, Nat.le_of_ble_eq_true rfl, cdM_px, lkM_120, imM_px, slM_px, inM_px, pmM_px⟩, List.forall_mem_cons.mpr ⟨⟨_, _, _, _, _, _, _, SM_py, rfl, rfl, Nat.le_of_ble_eq_true rfl, Nat.le_of_ble_eq_true rfl, cdM_py, lkM_123, imM_py, slM_py, inM_py, pmM_py⟩, List.forall_mem_cons.mpr ⟨⟨_, _, _, _, _, _, SM_wayTo, Nat.le_of_ble_eq_true rfl, Nat.le_of_ble_eq_true rfl, cdM_wayTo, lkM_126, imM_wayTo, inM_wayTo, pmM_wayTo⟩, fun _ h => absurd h List.not_mem_nil⟩⟩⟩) XST_M_ok
def wM_wayOf (f : Nat → Int32 → Int32 → XH → XR) : List Value → List Value → XH → XR := fun vs st h => match vs, st with
  | [.ref a0, .int x1, .int x2], [] => f a0 x1 x2 h
  | _, _ => none
set_option maxRecDepth 100000 in
theorem eM_wayOf (a0 : Nat) (x1 : Int32) (x2 : Int32) (h : XH) : qM_wayOf a0 x1 x2 h = xrun BM_wayOf (xfind []) 25 0 (List.zip [0, 1, 2] [.ref a0, .int x1, .int x2]) [] h := rfl
theorem tM_wayOf : XTo cX9_wayOf 3 RX9 1 2 46 0 [0, 1, 2] (wM_wayOf (qM_wayOf)) := by
  refine XTo.run (B := BM_wayOf) (cut := xfind []) kM_wayOf (xcuts_ok (fun _ h => absurd h List.not_mem_nil)) 25 (fun vs st h r hr => ?_)
  unfold wM_wayOf at hr
  split at hr
  · exact (eM_wayOf _ _ _ _).symm.trans hr
  · cases hr
def FM_wayOf : List Value → XH → XR := fun vs h => match vs with
  | [.ref a0, .int x1, .int x2] => qM_wayOf a0 x1 x2 h
  | _ => none
theorem SM_wayOf : XS yX9_wayOf cX9_wayOf 3 (some .int) (xrm 2 46) FM_wayOf := by
  refine XS.of (own := RX9) (by decide) rfl (rk := 1) rfl (tM_wayOf) (fun vs h r hr => ?_)
  unfold FM_wayOf at hr
  split at hr
  · exact ⟨rfl, Nat.le_of_ble_eq_true rfl, hr⟩
  · cases hr
-- LineDiagramModel.turnAt(II)I
def rM_turnAt : List (Nat × XRow) := [(0, (.aload_n 0, 1, 0, .null, [])),
  (1, (.iload_n 1, 2, 1, .null, [])),
  (2, (.iload_n 2, 3, 2, .null, [])),
  (3, (.iconst 1, 4, 0, .int (1 : Int32), [])),
  (4, (.isub, 5, 0, .null, [])),
  (5, (.invokevirtual 130, 8, 130, .null, [])),
  (8, (.aload_n 0, 9, 0, .null, [])),
  (9, (.iload_n 1, 10, 1, .null, [])),
  (10, (.iload_n 2, 11, 2, .null, [])),
  (11, (.invokevirtual 130, 14, 130, .null, [])),
  (14, (.invokestatic 133, 17, 133, .null, [])),
  (17, (.ireturn, 18, 0, .null, []))]
def mM_turnAt : List (Nat × XM) := [(130, (3, 1, some 9, FM_wayOf)), (133, (2, 1, none, FM_turnOf))]
abbrev BM_turnAt : XB := (rM_turnAt, XFT_M, mM_turnAt, 1, XST_M)
set_option maxRecDepth 100000 in
theorem kM_turnAt : XOK BM_turnAt cX9_turnAt 3 RX9 3 68 := xok_of (cps := []) (K := XKT_M) (by decide +kernel) XKT_M_ok (fun _ h => absurd h List.not_mem_nil) XFT_M_ok (List.forall_mem_cons.mpr ⟨⟨_, _, _, _, _, _, _, SM_wayOf, rfl, rfl, Nat.le_of_ble_eq_true rfl, Nat.le_of_ble_eq_true rfl, cdM_wayOf, lkM_130, imM_wayOf, slM_wayOf, inM_wayOf, pmM_wayOf⟩, List.forall_mem_cons.mpr ⟨⟨_, _, _, _, _, _, SM_turnOf, Nat.le_of_ble_eq_true rfl, Nat.le_of_ble_eq_true rfl, cdM_turnOf, lkM_133, imM_turnOf, inM_turnOf, pmM_turnOf⟩, fun _ h => absurd h List.not_mem_nil⟩⟩) XST_M_ok
def wM_turnAt (f : Nat → Int32 → Int32 → XH → XR) : List Value → List Value → XH → XR := fun vs st h => match vs, st with
  | [.ref a0, .int x1, .int x2], [] => f a0 x1 x2 h
  | _, _ => none
set_option maxRecDepth 100000 in
theorem eM_turnAt (a0 : Nat) (x1 : Int32) (x2 : Int32) (h : XH) : qM_turnAt a0 x1 x2 h = xrun BM_turnAt (xfind []) 15 0 (List.zip [0, 1, 2] [.ref a0, .int x1, .int x2]) [] h := rfl
theorem tM_turnAt : XTo cX9_turnAt 3 RX9 1 3 68 0 [0, 1, 2] (wM_turnAt (qM_turnAt)) := by
  refine XTo.run (B := BM_turnAt) (cut := xfind []) kM_turnAt (xcuts_ok (fun _ h => absurd h List.not_mem_nil)) 15 (fun vs st h r hr => ?_)
  unfold wM_turnAt at hr
  split at hr
  · exact (eM_turnAt _ _ _ _).symm.trans hr
  · cases hr
def FM_turnAt : List Value → XH → XR := fun vs h => match vs with
  | [.ref a0, .int x1, .int x2] => qM_turnAt a0 x1 x2 h
  | _ => none
theorem SM_turnAt : XS yX9_turnAt cX9_turnAt 3 (some .int) (xrm 3 68) FM_turnAt := by
  refine XS.of (own := RX9) (by decide) rfl (rk := 1) rfl (tM_turnAt) (fun vs h r hr => ?_)
  unfold FM_turnAt at hr
  split at hr
  · exact ⟨rfl, Nat.le_of_ble_eq_true rfl, hr⟩
  · cases hr
-- LineDiagramModel.stepsOf(II)I
def rM_stepsOf : List (Nat × XRow) := [(0, (.aload_n 0, 1, 0, .null, [])),
  (1, (.iload_n 1, 2, 1, .null, [])),
  (2, (.iload_n 2, 3, 2, .null, [])),
  (3, (.iconst 1, 4, 0, .int (1 : Int32), [])),
  (4, (.iadd, 5, 0, .null, [])),
  (5, (.invokevirtual 120, 8, 120, .null, [])),
  (8, (.aload_n 0, 9, 0, .null, [])),
  (9, (.iload_n 1, 10, 1, .null, [])),
  (10, (.iload_n 2, 11, 2, .null, [])),
  (11, (.invokevirtual 120, 14, 120, .null, [])),
  (14, (.isub, 15, 0, .null, [])),
  (15, (.invokestatic 107, 18, 107, .null, [])),
  (18, (.istore_n 3, 19, 3, .null, [])),
  (19, (.aload_n 0, 20, 0, .null, [])),
  (20, (.iload_n 1, 21, 1, .null, [])),
  (21, (.iload_n 2, 22, 2, .null, [])),
  (22, (.iconst 1, 23, 0, .int (1 : Int32), [])),
  (23, (.iadd, 24, 0, .null, [])),
  (24, (.invokevirtual 123, 27, 123, .null, [])),
  (27, (.aload_n 0, 28, 0, .null, [])),
  (28, (.iload_n 1, 29, 1, .null, [])),
  (29, (.iload_n 2, 30, 2, .null, [])),
  (30, (.invokevirtual 123, 33, 123, .null, [])),
  (33, (.isub, 34, 0, .null, [])),
  (34, (.invokestatic 107, 37, 107, .null, [])),
  (37, (.istore 4, 39, 4, .null, [])),
  (39, (.iload_n 3, 40, 3, .null, [])),
  (40, (.iload 4, 42, 4, .null, [])),
  (42, (.if_icmp .le 7, 45, 49, .null, [])),
  (45, (.iload_n 3, 46, 3, .null, [])),
  (46, (.goto 5, 49, 51, .null, [])),
  (49, (.iload 4, 51, 4, .null, [])),
  (51, (.ireturn, 52, 0, .null, []))]
def mM_stepsOf : List (Nat × XM) := [(107, (1, 1, none, FM_size)), (120, (3, 1, some 9, FM_px)), (123, (3, 1, some 9, FM_py))]
abbrev BM_stepsOf : XB := (rM_stepsOf, XFT_M, mM_stepsOf, 1, XST_M)
set_option maxRecDepth 100000 in
theorem kM_stepsOf : XOK BM_stepsOf cX9_stepsOf 5 RX9 2 44 := xok_of (cps := []) (K := XKT_M) (by decide +kernel) XKT_M_ok (fun _ h => absurd h List.not_mem_nil) XFT_M_ok (List.forall_mem_cons.mpr ⟨⟨_, _, _, _, _, _, SM_size, Nat.le_of_ble_eq_true rfl, Nat.le_of_ble_eq_true rfl, cdM_size, lkM_107, imM_size, inM_size, pmM_size⟩, List.forall_mem_cons.mpr ⟨⟨_, _, _, _, _, _, _, SM_px, rfl, rfl, Nat.le_of_ble_eq_true rfl, Nat.le_of_ble_eq_true rfl, cdM_px, lkM_120, imM_px, slM_px, inM_px, pmM_px⟩, List.forall_mem_cons.mpr ⟨⟨_, _, _, _, _, _, _, SM_py, rfl, rfl, Nat.le_of_ble_eq_true rfl, Nat.le_of_ble_eq_true rfl, cdM_py, lkM_123, imM_py, slM_py, inM_py, pmM_py⟩, fun _ h => absurd h List.not_mem_nil⟩⟩⟩) XST_M_ok
def wM_stepsOf (f : Nat → Int32 → Int32 → XH → XR) : List Value → List Value → XH → XR := fun vs st h => match vs, st with
  | [.ref a0, .int x1, .int x2], [] => f a0 x1 x2 h
  | _, _ => none
set_option maxRecDepth 100000 in
theorem eM_stepsOf (a0 : Nat) (x1 : Int32) (x2 : Int32) (h : XH) : qM_stepsOf a0 x1 x2 h = xrun BM_stepsOf (xfind []) 36 0 (List.zip [0, 1, 2] [.ref a0, .int x1, .int x2]) [] h := rfl
theorem tM_stepsOf : XTo cX9_stepsOf 5 RX9 1 2 44 0 [0, 1, 2] (wM_stepsOf (qM_stepsOf)) := by
  refine XTo.run (B := BM_stepsOf) (cut := xfind []) kM_stepsOf (xcuts_ok (fun _ h => absurd h List.not_mem_nil)) 36 (fun vs st h r hr => ?_)
  unfold wM_stepsOf at hr
  split at hr
  · exact (eM_stepsOf _ _ _ _).symm.trans hr
  · cases hr
def FM_stepsOf : List Value → XH → XR := fun vs h => match vs with
  | [.ref a0, .int x1, .int x2] => qM_stepsOf a0 x1 x2 h
  | _ => none
theorem SM_stepsOf : XS yX9_stepsOf cX9_stepsOf 5 (some .int) (xrm 2 44) FM_stepsOf := by
  refine XS.of (own := RX9) (by decide) rfl (rk := 1) rfl (tM_stepsOf) (fun vs h r hr => ?_)
  unfold FM_stepsOf at hr
  split at hr
  · exact ⟨rfl, Nat.le_of_ble_eq_true rfl, hr⟩
  · cases hr
-- LineDiagramModel.lengthOf(I)I
def rM_lengthOf : List (Nat × XRow) := [(0, (.iconst 0, 1, 0, .int (0 : Int32), [])),
  (1, (.istore_n 2, 2, 2, .null, [])),
  (2, (.iconst 0, 3, 0, .int (0 : Int32), [])),
  (3, (.istore_n 3, 4, 3, .null, [])),
  (4, (.iload_n 3, 5, 3, .null, [])),
  (5, (.iconst 1, 6, 0, .int (1 : Int32), [])),
  (6, (.iadd, 7, 0, .null, [])),
  (7, (.aload_n 0, 8, 0, .null, [])),
  (8, (.iload_n 1, 9, 1, .null, [])),
  (9, (.iconst 2, 10, 0, .int (2 : Int32), [])),
  (10, (.invokevirtual 88, 13, 88, .null, [])),
  (13, (.if_icmp .ge 18, 16, 31, .null, [])),
  (16, (.iload_n 2, 17, 2, .null, [])),
  (17, (.aload_n 0, 18, 0, .null, [])),
  (18, (.iload_n 1, 19, 1, .null, [])),
  (19, (.iload_n 3, 20, 3, .null, [])),
  (20, (.invokevirtual 136, 23, 136, .null, [])),
  (23, (.iadd, 24, 0, .null, [])),
  (24, (.istore_n 2, 25, 2, .null, [])),
  (25, (.iinc 3 1, 28, 3, .int (1 : Int32), [])),
  (28, (.goto (-24), 31, 4, .null, [])),
  (31, (.iload_n 2, 32, 2, .null, [])),
  (32, (.ireturn, 33, 0, .null, []))]
def mM_lengthOf : List (Nat × XM) := [(88, (3, 1, some 9, FM_of)), (136, (3, 1, some 9, FM_stepsOf))]
abbrev BM_lengthOf : XB := (rM_lengthOf, XFT_M, mM_lengthOf, 1, XST_M)
set_option maxRecDepth 100000 in
theorem kM_lengthOf : XOK BM_lengthOf cX9_lengthOf 4 RX9 3 68 := xok_of (cps := []) (K := XKT_M) (by decide +kernel) XKT_M_ok (fun _ h => absurd h List.not_mem_nil) XFT_M_ok (List.forall_mem_cons.mpr ⟨⟨_, _, _, _, _, _, _, SM_of, rfl, rfl, Nat.le_of_ble_eq_true rfl, Nat.le_of_ble_eq_true rfl, cdM_of, lkM_88, imM_of, slM_of, inM_of, pmM_of⟩, List.forall_mem_cons.mpr ⟨⟨_, _, _, _, _, _, _, SM_stepsOf, rfl, rfl, Nat.le_of_ble_eq_true rfl, Nat.le_of_ble_eq_true rfl, cdM_stepsOf, lkM_136, imM_stepsOf, slM_stepsOf, inM_stepsOf, pmM_stepsOf⟩, fun _ h => absurd h List.not_mem_nil⟩⟩) XST_M_ok
def wM_lengthOf_4 (f : Nat → Int32 → Int32 → Int32 → XH → XR) : List Value → List Value → XH → XR := fun vs st h => match vs, st with
  | [.ref a0, .int x1, .int x2, .int x3], [] => f a0 x1 x2 x3 h
  | _, _ => none
def wM_lengthOf (f : Nat → Int32 → XH → XR) : List Value → List Value → XH → XR := fun vs st h => match vs, st with
  | [.ref a0, .int x1], [] => f a0 x1 h
  | _, _ => none
set_option maxRecDepth 100000 in
theorem eM_lengthOf_4_b (k4 : Nat → Int32 → Int32 → Int32 → XH → XR) (a0 : Nat) (x1 : Int32) (x2 : Int32) (x3 : Int32) (h : XH) : qM_lengthOf_4_b k4 a0 x1 x2 x3 h = xrun BM_lengthOf (xfind [(4, ([0, 1, 2, 3], wM_lengthOf_4 (k4)))]) 26 4 (List.zip [0, 1, 2, 3] [.ref a0, .int x1, .int x2, .int x3]) [] h := rfl
theorem tM_lengthOf_4_b {k4 : Nat → Int32 → Int32 → Int32 → XH → XR} (hk4 : XTo cX9_lengthOf 4 RX9 1 3 68 4 [0, 1, 2, 3] (wM_lengthOf_4 k4)) : XTo cX9_lengthOf 4 RX9 1 3 68 4 [0, 1, 2, 3] (wM_lengthOf_4 (qM_lengthOf_4_b k4)) := by
  refine XTo.run (B := BM_lengthOf) (cut := xfind [(4, ([0, 1, 2, 3], wM_lengthOf_4 (k4)))]) kM_lengthOf (xcuts_ok (List.forall_mem_cons.mpr ⟨hk4, fun _ h => absurd h List.not_mem_nil⟩)) 26 (fun vs st h r hr => ?_)
  unfold wM_lengthOf_4 at hr
  split at hr
  · exact (eM_lengthOf_4_b k4 _ _ _ _ _).symm.trans hr
  · cases hr
theorem tM_lengthOf_4 : ∀ n : Nat, XTo cX9_lengthOf 4 RX9 1 3 68 4 [0, 1, 2, 3] (wM_lengthOf_4 (qM_lengthOf_4 n)) := by
  intro n
  induction n with
  | zero =>
    refine XTo.none fun vs st h => ?_
    unfold wM_lengthOf_4
    split <;> rfl
  | succ n ih => exact tM_lengthOf_4_b  ih
set_option maxRecDepth 100000 in
theorem eM_lengthOf (a0 : Nat) (x1 : Int32) (h : XH) : qM_lengthOf a0 x1 h = xrun BM_lengthOf (xfind [(4, ([0, 1, 2, 3], wM_lengthOf_4 (qM_lengthOf_4 LF)))]) 26 0 (List.zip [0, 1] [.ref a0, .int x1]) [] h := rfl
theorem tM_lengthOf : XTo cX9_lengthOf 4 RX9 1 3 68 0 [0, 1] (wM_lengthOf (qM_lengthOf)) := by
  refine XTo.run (B := BM_lengthOf) (cut := xfind [(4, ([0, 1, 2, 3], wM_lengthOf_4 (qM_lengthOf_4 LF)))]) kM_lengthOf (xcuts_ok (List.forall_mem_cons.mpr ⟨tM_lengthOf_4 LF, fun _ h => absurd h List.not_mem_nil⟩)) 26 (fun vs st h r hr => ?_)
  unfold wM_lengthOf at hr
  split at hr
  · exact (eM_lengthOf _ _ _).symm.trans hr
  · cases hr
def FM_lengthOf : List Value → XH → XR := fun vs h => match vs with
  | [.ref a0, .int x1] => qM_lengthOf a0 x1 h
  | _ => none
theorem SM_lengthOf : XS yX9_lengthOf cX9_lengthOf 4 (some .int) (xrm 3 68) FM_lengthOf := by
  refine XS.of (own := RX9) (by decide) rfl (rk := 1) rfl (tM_lengthOf) (fun vs h r hr => ?_)
  unfold FM_lengthOf at hr
  split at hr
  · exact ⟨rfl, Nat.le_of_ble_eq_true rfl, hr⟩
  · cases hr
