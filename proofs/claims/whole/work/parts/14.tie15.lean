-- LineDiagram.show(LLineDiagram$Plan;)V
def rD_show : List (Nat × XRow) := [(0, (.aload_n 0, 1, 0, .null, [])),
  (1, (.getfield 29, 4, 29, .null, [])),
  (4, (.aload_n 1, 5, 1, .null, [])),
  (5, (.invokevirtual 94, 8, 94, .null, [])),
  (8, (.aload_n 0, 9, 0, .null, [])),
  (9, (.getfield 54, 12, 54, .null, [])),
  (12, (.aload_n 0, 13, 0, .null, [])),
  (13, (.getfield 29, 16, 29, .null, [])),
  (16, (.invokevirtual 98, 19, 98, .null, [])),
  (19, (.aload_n 0, 20, 0, .null, [])),
  (20, (.getfield 29, 23, 29, .null, [])),
  (23, (.getfield 161, 26, 161, .null, [])),
  (26, (.aload_n 0, 27, 0, .null, [])),
  (27, (.getfield 54, 30, 54, .null, [])),
  (30, (.invokevirtual 355, 33, 355, .null, [])),
  (33, (.pop, 34, 0, .null, [])),
  (34, (.return_, 35, 0, .null, []))]
def mD_show : List (Nat × XM) := [(94, (2, 0, some 5, FP_copyFrom)), (98, (2, 0, some 0, FB_drawLines)), (355, (2, 1, some 2, FLb_keepFitting))]
abbrev BD_show : XB := (rD_show, XFT_D, mD_show, 0, XST_D)
set_option maxRecDepth 100000 in
theorem kD_show : XOK BD_show cX8_show 2 RX8 4 107 := xok_of (cps := []) (K := XKT_D) (by decide +kernel) XKT_D_ok (fun _ h => absurd h List.not_mem_nil) XFT_D_ok (List.forall_mem_cons.mpr ⟨⟨_, _, _, _, _, _, _, SP_copyFrom, rfl, rfl, Nat.le_of_ble_eq_true rfl, Nat.le_of_ble_eq_true rfl, cdP_copyFrom, lkD_94, imP_copyFrom, slP_copyFrom, inP_copyFrom, pmP_copyFrom⟩, List.forall_mem_cons.mpr ⟨⟨_, _, _, _, _, _, _, SB_drawLines, rfl, rfl, Nat.le_of_ble_eq_true rfl, Nat.le_of_ble_eq_true rfl, cdB_drawLines, lkD_98, imB_drawLines, slB_drawLines, inB_drawLines, pmB_drawLines⟩, List.forall_mem_cons.mpr ⟨⟨_, _, _, _, _, _, _, SLb_keepFitting, rfl, rfl, Nat.le_of_ble_eq_true rfl, Nat.le_of_ble_eq_true rfl, cdLb_keepFitting, lkD_355, imLb_keepFitting, slLb_keepFitting, inLb_keepFitting, pmLb_keepFitting⟩, fun _ h => absurd h List.not_mem_nil⟩⟩⟩) XST_D_ok
def wD_show (f : Nat → Nat → XH → XR) : List Value → List Value → XH → XR := fun vs st h => match vs, st with
  | [.ref a0, .ref a1], [] => f a0 a1 h
  | _, _ => none
set_option maxRecDepth 100000 in
theorem eD_show (a0 : Nat) (a1 : Nat) (h : XH) : qD_show a0 a1 h = xrun BD_show (xfind []) 20 0 (List.zip [0, 1] [.ref a0, .ref a1]) [] h := rfl
theorem tD_show : XTo cX8_show 2 RX8 0 4 107 0 [0, 1] (wD_show (qD_show)) := by
  refine XTo.run (B := BD_show) (cut := xfind []) kD_show (xcuts_ok (fun _ h => absurd h List.not_mem_nil)) 20 (fun vs st h r hr => ?_)
  unfold wD_show at hr
  split at hr
  · exact (eD_show _ _ _).symm.trans hr
  · cases hr
def FD_show : List Value → XH → XR := fun vs h => match vs with
  | [.ref a0, .ref a1] => qD_show a0 a1 h
  | _ => none
theorem SD_show : XS yX8_show cX8_show 2 none (xrm 4 107) FD_show := by
  refine XS.of (own := RX8) (by decide) rfl (rk := 0) rfl (tD_show) (fun vs h r hr => ?_)
  unfold FD_show at hr
  split at hr
  · exact ⟨rfl, Nat.le_of_ble_eq_true rfl, hr⟩
  · cases hr
-- LineDiagram.restore(I)I
def rD_restore : List (Nat × XRow) := [(0, (.iload_n 1, 1, 1, .null, [])),
  (1, (.invokestatic 196, 4, 196, .null, [])),
  (4, (.ifCond .ne 5, 7, 9, .null, [])),
  (7, (.iconst (-1), 8, 0, .int (-1 : Int32), [])),
  (8, (.ireturn, 9, 0, .null, [])),
  (9, (.aload_n 0, 10, 0, .null, [])),
  (10, (.getfield 40, 13, 40, .null, [])),
  (13, (.iload_n 1, 14, 1, .null, [])),
  (14, (.baload, 15, 0, .null, [])),
  (15, (.ifCond .ne 6, 18, 21, .null, [])),
  (18, (.bipush (-2), 20, 0, .int (-2 : Int32), [])),
  (20, (.ireturn, 21, 0, .null, [])),
  (21, (.aload_n 0, 22, 0, .null, [])),
  (22, (.getfield 47, 25, 47, .null, [])),
  (25, (.aload_n 0, 26, 0, .null, [])),
  (26, (.getfield 29, 29, 29, .null, [])),
  (29, (.invokevirtual 173, 32, 173, .null, [])),
  (32, (.aload_n 0, 33, 0, .null, [])),
  (33, (.aload_n 0, 34, 0, .null, [])),
  (34, (.getfield 36, 37, 36, .null, [])),
  (37, (.iload_n 1, 38, 1, .null, [])),
  (38, (.aaload, 39, 0, .null, [])),
  (39, (.invokevirtual 202, 42, 202, .null, [])),
  (42, (.aload_n 0, 43, 0, .null, [])),
  (43, (.getfield 29, 46, 29, .null, [])),
  (46, (.getfield 161, 49, 161, .null, [])),
  (49, (.getfield 199, 52, 199, .null, [])),
  (52, (.ireturn, 53, 0, .null, []))]
def mD_restore : List (Nat × XM) := [(173, (2, 0, some 1, FH_push)), (196, (1, 1, none, FD_isSlot)), (202, (2, 0, some 8, FD_show))]
abbrev BD_restore : XB := (rD_restore, XFT_D, mD_restore, 1, XST_D)
set_option maxRecDepth 100000 in
theorem kD_restore : XOK BD_restore cX8_restore 2 RX8 5 128 := xok_of (cps := []) (K := XKT_D) (by decide +kernel) XKT_D_ok (fun _ h => absurd h List.not_mem_nil) XFT_D_ok (List.forall_mem_cons.mpr ⟨⟨_, _, _, _, _, _, _, SH_push, rfl, rfl, Nat.le_of_ble_eq_true rfl, Nat.le_of_ble_eq_true rfl, cdH_push, lkD_173, imH_push, slH_push, inH_push, pmH_push⟩, List.forall_mem_cons.mpr ⟨⟨_, _, _, _, _, _, SD_isSlot, Nat.le_of_ble_eq_true rfl, Nat.le_of_ble_eq_true rfl, cdD_isSlot, lkD_196, imD_isSlot, inD_isSlot, pmD_isSlot⟩, List.forall_mem_cons.mpr ⟨⟨_, _, _, _, _, _, _, SD_show, rfl, rfl, Nat.le_of_ble_eq_true rfl, Nat.le_of_ble_eq_true rfl, cdD_show, lkD_202, imD_show, slD_show, inD_show, pmD_show⟩, fun _ h => absurd h List.not_mem_nil⟩⟩⟩) XST_D_ok
def wD_restore (f : Nat → Int32 → XH → XR) : List Value → List Value → XH → XR := fun vs st h => match vs, st with
  | [.ref a0, .int x1], [] => f a0 x1 h
  | _, _ => none
set_option maxRecDepth 100000 in
theorem eD_restore (a0 : Nat) (x1 : Int32) (h : XH) : qD_restore a0 x1 h = xrun BD_restore (xfind []) 31 0 (List.zip [0, 1] [.ref a0, .int x1]) [] h := rfl
theorem tD_restore : XTo cX8_restore 2 RX8 1 5 128 0 [0, 1] (wD_restore (qD_restore)) := by
  refine XTo.run (B := BD_restore) (cut := xfind []) kD_restore (xcuts_ok (fun _ h => absurd h List.not_mem_nil)) 31 (fun vs st h r hr => ?_)
  unfold wD_restore at hr
  split at hr
  · exact (eD_restore _ _ _).symm.trans hr
  · cases hr
def FD_restore : List Value → XH → XR := fun vs h => match vs with
  | [.ref a0, .int x1] => qD_restore a0 x1 h
  | _ => none
theorem SD_restore : XS yX8_restore cX8_restore 2 (some .int) (xrm 5 128) FD_restore := by
  refine XS.of (own := RX8) (by decide) rfl (rk := 1) rfl (tD_restore) (fun vs h r hr => ?_)
  unfold FD_restore at hr
  split at hr
  · exact ⟨rfl, Nat.le_of_ble_eq_true rfl, hr⟩
  · cases hr
-- LineDiagramModel.restore(I)I
def rM_restore : List (Nat × XRow) := [(0, (.iload_n 1, 1, 1, .null, [])),
  (1, (.i2l, 2, 0, .null, [])),
  (2, (.lconst 0, 3, 0, .long (0 : Int64), [])),
  (3, (.lconst 1, 4, 0, .long (1 : Int64), [])),
  (4, (.invokestatic 96, 7, 96, .null, [])),
  (7, (.ifCond .ne 5, 10, 12, .null, [])),
  (10, (.iconst (-1), 11, 0, .int (-1 : Int32), [])),
  (11, (.ireturn, 12, 0, .null, [])),
  (12, (.aload_n 0, 13, 0, .null, [])),
  (13, (.getfield 33, 16, 33, .null, [])),
  (16, (.iload_n 1, 17, 1, .null, [])),
  (17, (.baload, 18, 0, .null, [])),
  (18, (.ifCond .ne 6, 21, 24, .null, [])),
  (21, (.bipush (-2), 23, 0, .int (-2 : Int32), [])),
  (23, (.ireturn, 24, 0, .null, [])),
  (24, (.aload_n 0, 25, 0, .null, [])),
  (25, (.invokevirtual 340, 28, 340, .null, [])),
  (28, (.iconst 0, 29, 0, .int (0 : Int32), [])),
  (29, (.istore_n 2, 30, 2, .null, [])),
  (30, (.iload_n 2, 31, 2, .null, [])),
  (31, (.sipush 1784, 34, 0, .int (1784 : Int32), [])),
  (34, (.if_icmp .ge 27, 37, 61, .null, [])),
  (37, (.aload_n 0, 38, 0, .null, [])),
  (38, (.getfield 21, 41, 21, .null, [])),
  (41, (.iload_n 2, 42, 2, .null, [])),
  (42, (.aload_n 0, 43, 0, .null, [])),
  (43, (.getfield 30, 46, 30, .null, [])),
  (46, (.sipush 1784, 49, 0, .int (1784 : Int32), [])),
  (49, (.iload_n 1, 50, 1, .null, [])),
  (50, (.imul, 51, 0, .null, [])),
  (51, (.iload_n 2, 52, 2, .null, [])),
  (52, (.iadd, 53, 0, .null, [])),
  (53, (.iaload, 54, 0, .null, [])),
  (54, (.iastore, 55, 0, .null, [])),
  (55, (.iinc 2 1, 58, 2, .int (1 : Int32), [])),
  (58, (.goto (-28), 61, 30, .null, [])),
  (61, (.aload_n 0, 62, 0, .null, [])),
  (62, (.invokevirtual 392, 65, 392, .null, [])),
  (65, (.ireturn, 66, 0, .null, []))]
def mM_restore : List (Nat × XM) := [(96, (3, 1, none, FM_in)), (340, (1, 0, some 9, FM_remembers)), (392, (1, 1, some 9, FM_manyLabels))]
abbrev BM_restore : XB := (rM_restore, XFT_M, mM_restore, 1, XST_M)
set_option maxRecDepth 100000 in
theorem kM_restore : XOK BM_restore cX9_restore 3 RX9 2 43 := xok_of (cps := []) (K := XKT_M) (by decide +kernel) XKT_M_ok (fun _ h => absurd h List.not_mem_nil) XFT_M_ok (List.forall_mem_cons.mpr ⟨⟨_, _, _, _, _, _, SM_in, Nat.le_of_ble_eq_true rfl, Nat.le_of_ble_eq_true rfl, cdM_in, lkM_96, imM_in, inM_in, pmM_in⟩, List.forall_mem_cons.mpr ⟨⟨_, _, _, _, _, _, _, SM_remembers, rfl, rfl, Nat.le_of_ble_eq_true rfl, Nat.le_of_ble_eq_true rfl, cdM_remembers, lkM_340, imM_remembers, slM_remembers, inM_remembers, pmM_remembers⟩, List.forall_mem_cons.mpr ⟨⟨_, _, _, _, _, _, _, SM_manyLabels, rfl, rfl, Nat.le_of_ble_eq_true rfl, Nat.le_of_ble_eq_true rfl, cdM_manyLabels, lkM_392, imM_manyLabels, slM_manyLabels, inM_manyLabels, pmM_manyLabels⟩, fun _ h => absurd h List.not_mem_nil⟩⟩⟩) XST_M_ok
def wM_restore_61 (f : Nat → XH → XR) : List Value → List Value → XH → XR := fun vs st h => match vs, st with
  | [.ref a0], [] => f a0 h
  | _, _ => none
def wM_restore_30 (f : Nat → Int32 → Int32 → XH → XR) : List Value → List Value → XH → XR := fun vs st h => match vs, st with
  | [.ref a0, .int x1, .int x2], [] => f a0 x1 x2 h
  | _, _ => none
def wM_restore (f : Nat → Int32 → XH → XR) : List Value → List Value → XH → XR := fun vs st h => match vs, st with
  | [.ref a0, .int x1], [] => f a0 x1 h
  | _, _ => none
set_option maxRecDepth 100000 in
theorem eM_restore_61 (a0 : Nat) (h : XH) : qM_restore_61 a0 h = xrun BM_restore (xfind []) 42 61 (List.zip [0] [.ref a0]) [] h := rfl
theorem tM_restore_61 : XTo cX9_restore 3 RX9 1 2 43 61 [0] (wM_restore_61 (qM_restore_61)) := by
  refine XTo.run (B := BM_restore) (cut := xfind []) kM_restore (xcuts_ok (fun _ h => absurd h List.not_mem_nil)) 42 (fun vs st h r hr => ?_)
  unfold wM_restore_61 at hr
  split at hr
  · exact (eM_restore_61 _ _).symm.trans hr
  · cases hr
set_option maxRecDepth 100000 in
theorem eM_restore_30_b (k30 : Nat → Int32 → Int32 → XH → XR) (a0 : Nat) (x1 : Int32) (x2 : Int32) (h : XH) : qM_restore_30_b k30 a0 x1 x2 h = xrun BM_restore (xfind [(30, ([0, 1, 2], wM_restore_30 (k30))), (61, ([0], wM_restore_61 (qM_restore_61)))]) 42 30 (List.zip [0, 1, 2] [.ref a0, .int x1, .int x2]) [] h := rfl
theorem tM_restore_30_b {k30 : Nat → Int32 → Int32 → XH → XR} (hk30 : XTo cX9_restore 3 RX9 1 2 43 30 [0, 1, 2] (wM_restore_30 k30)) : XTo cX9_restore 3 RX9 1 2 43 30 [0, 1, 2] (wM_restore_30 (qM_restore_30_b k30)) := by
  refine XTo.run (B := BM_restore) (cut := xfind [(30, ([0, 1, 2], wM_restore_30 (k30))), (61, ([0], wM_restore_61 (qM_restore_61)))]) kM_restore (xcuts_ok (List.forall_mem_cons.mpr ⟨hk30, List.forall_mem_cons.mpr ⟨tM_restore_61, fun _ h => absurd h List.not_mem_nil⟩⟩)) 42 (fun vs st h r hr => ?_)
  unfold wM_restore_30 at hr
  split at hr
  · exact (eM_restore_30_b k30 _ _ _ _).symm.trans hr
  · cases hr
theorem tM_restore_30 : ∀ n : Nat, XTo cX9_restore 3 RX9 1 2 43 30 [0, 1, 2] (wM_restore_30 (qM_restore_30 n)) := by
  intro n
  induction n with
  | zero =>
    refine XTo.none fun vs st h => ?_
    unfold wM_restore_30
    split <;> rfl
  | succ n ih => exact tM_restore_30_b  ih
set_option maxRecDepth 100000 in
theorem eM_restore (a0 : Nat) (x1 : Int32) (h : XH) : qM_restore a0 x1 h = xrun BM_restore (xfind [(30, ([0, 1, 2], wM_restore_30 (qM_restore_30 LF)))]) 42 0 (List.zip [0, 1] [.ref a0, .int x1]) [] h := rfl
theorem tM_restore : XTo cX9_restore 3 RX9 1 2 43 0 [0, 1] (wM_restore (qM_restore)) := by
  refine XTo.run (B := BM_restore) (cut := xfind [(30, ([0, 1, 2], wM_restore_30 (qM_restore_30 LF)))]) kM_restore (xcuts_ok (List.forall_mem_cons.mpr ⟨tM_restore_30 LF, fun _ h => absurd h List.not_mem_nil⟩)) 42 (fun vs st h r hr => ?_)
  unfold wM_restore at hr
  split at hr
  · exact (eM_restore _ _ _).symm.trans hr
  · cases hr
def FM_restore : List Value → XH → XR := fun vs h => match vs with
  | [.ref a0, .int x1] => qM_restore a0 x1 h
  | _ => none
theorem SM_restore : XS yX9_restore cX9_restore 3 (some .int) (xrm 2 43) FM_restore := by
  refine XS.of (own := RX9) (by decide) rfl (rk := 1) rfl (tM_restore) (fun vs h r hr => ?_)
  unfold FM_restore at hr
  split at hr
  · exact ⟨rfl, Nat.le_of_ble_eq_true rfl, hr⟩
  · cases hr
-- LineDiagram$History.pop(LLineDiagram$Plan;)V
def rH_pop : List (Nat × XRow) := [(0, (.aload_n 0, 1, 0, .null, [])),
  (1, (.getfield 18, 4, 18, .null, [])),
  (4, (.ifCond .gt 4, 7, 8, .null, [])),
  (7, (.return_, 8, 0, .null, [])),
  (8, (.aload_n 0, 9, 0, .null, [])),
  (9, (.aload_n 0, 10, 0, .null, [])),
  (10, (.getfield 22, 13, 22, .null, [])),
  (13, (.bipush 8, 15, 0, .int (8 : Int32), [])),
  (15, (.iadd, 16, 0, .null, [])),
  (16, (.iconst 1, 17, 0, .int (1 : Int32), [])),
  (17, (.isub, 18, 0, .null, [])),
  (18, (.bipush 8, 20, 0, .int (8 : Int32), [])),
  (20, (.irem, 21, 0, .null, [])),
  (21, (.putfield 22, 24, 22, .null, [])),
  (24, (.aload_n 0, 25, 0, .null, [])),
  (25, (.dup, 26, 0, .null, [])),
  (26, (.getfield 18, 29, 18, .null, [])),
  (29, (.iconst 1, 30, 0, .int (1 : Int32), [])),
  (30, (.isub, 31, 0, .null, [])),
  (31, (.putfield 18, 34, 18, .null, [])),
  (34, (.aload_n 1, 35, 1, .null, [])),
  (35, (.aload_n 0, 36, 0, .null, [])),
  (36, (.getfield 11, 39, 11, .null, [])),
  (39, (.aload_n 0, 40, 0, .null, [])),
  (40, (.getfield 22, 43, 22, .null, [])),
  (43, (.aaload, 44, 0, .null, [])),
  (44, (.invokevirtual 25, 47, 25, .null, [])),
  (47, (.return_, 48, 0, .null, []))]
def mH_pop : List (Nat × XM) := [(25, (2, 0, some 5, FP_copyFrom))]
abbrev BH_pop : XB := (rH_pop, XFT_H, mH_pop, 0, XST_H)
set_option maxRecDepth 100000 in
theorem kH_pop : XOK BH_pop cX1_pop 2 RX1 3 107 := xok_of (cps := []) (K := XKT_H) (by decide +kernel) XKT_H_ok (fun _ h => absurd h List.not_mem_nil) XFT_H_ok (List.forall_mem_cons.mpr ⟨⟨_, _, _, _, _, _, _, SP_copyFrom, rfl, rfl, Nat.le_of_ble_eq_true rfl, Nat.le_of_ble_eq_true rfl, cdP_copyFrom, lkH_25, imP_copyFrom, slP_copyFrom, inP_copyFrom, pmP_copyFrom⟩, fun _ h => absurd h List.not_mem_nil⟩) XST_H_ok
def wH_pop (f : Nat → Nat → XH → XR) : List Value → List Value → XH → XR := fun vs st h => match vs, st with
  | [.ref a0, .ref a1], [] => f a0 a1 h
  | _, _ => none
set_option maxRecDepth 100000 in
theorem eH_pop (a0 : Nat) (a1 : Nat) (h : XH) : qH_pop a0 a1 h = xrun BH_pop (xfind []) 31 0 (List.zip [0, 1] [.ref a0, .ref a1]) [] h := rfl
theorem tH_pop : XTo cX1_pop 2 RX1 0 3 107 0 [0, 1] (wH_pop (qH_pop)) := by
  refine XTo.run (B := BH_pop) (cut := xfind []) kH_pop (xcuts_ok (fun _ h => absurd h List.not_mem_nil)) 31 (fun vs st h r hr => ?_)
  unfold wH_pop at hr
  split at hr
  · exact (eH_pop _ _ _).symm.trans hr
  · cases hr
def FH_pop : List Value → XH → XR := fun vs h => match vs with
  | [.ref a0, .ref a1] => qH_pop a0 a1 h
  | _ => none
theorem SH_pop : XS yX1_pop cX1_pop 2 none (xrm 3 107) FH_pop := by
  refine XS.of (own := RX1) (by decide) rfl (rk := 0) rfl (tH_pop) (fun vs h r hr => ?_)
  unfold FH_pop at hr
  split at hr
  · exact ⟨rfl, Nat.le_of_ble_eq_true rfl, hr⟩
  · cases hr
-- LineDiagram.undo()I
def rD_undo : List (Nat × XRow) := [(0, (.aload_n 0, 1, 0, .null, [])),
  (1, (.getfield 47, 4, 47, .null, [])),
  (4, (.getfield 205, 7, 205, .null, [])),
  (7, (.ifCond .gt 5, 10, 12, .null, [])),
  (10, (.iconst (-1), 11, 0, .int (-1 : Int32), [])),
  (11, (.ireturn, 12, 0, .null, [])),
  (12, (.aload_n 0, 13, 0, .null, [])),
  (13, (.getfield 47, 16, 47, .null, [])),
  (16, (.aload_n 0, 17, 0, .null, [])),
  (17, (.getfield 33, 20, 33, .null, [])),
  (20, (.invokevirtual 206, 23, 206, .null, [])),
  (23, (.aload_n 0, 24, 0, .null, [])),
  (24, (.aload_n 0, 25, 0, .null, [])),
  (25, (.getfield 33, 28, 33, .null, [])),
  (28, (.invokevirtual 202, 31, 202, .null, [])),
  (31, (.aload_n 0, 32, 0, .null, [])),
  (32, (.getfield 47, 35, 47, .null, [])),
  (35, (.getfield 205, 38, 205, .null, [])),
  (38, (.ireturn, 39, 0, .null, []))]
def mD_undo : List (Nat × XM) := [(202, (2, 0, some 8, FD_show)), (206, (2, 0, some 1, FH_pop))]
abbrev BD_undo : XB := (rD_undo, XFT_D, mD_undo, 1, XST_D)
set_option maxRecDepth 100000 in
theorem kD_undo : XOK BD_undo cX8_undo 1 RX8 5 128 := xok_of (cps := []) (K := XKT_D) (by decide +kernel) XKT_D_ok (fun _ h => absurd h List.not_mem_nil) XFT_D_ok (List.forall_mem_cons.mpr ⟨⟨_, _, _, _, _, _, _, SD_show, rfl, rfl, Nat.le_of_ble_eq_true rfl, Nat.le_of_ble_eq_true rfl, cdD_show, lkD_202, imD_show, slD_show, inD_show, pmD_show⟩, List.forall_mem_cons.mpr ⟨⟨_, _, _, _, _, _, _, SH_pop, rfl, rfl, Nat.le_of_ble_eq_true rfl, Nat.le_of_ble_eq_true rfl, cdH_pop, lkD_206, imH_pop, slH_pop, inH_pop, pmH_pop⟩, fun _ h => absurd h List.not_mem_nil⟩⟩) XST_D_ok
def wD_undo (f : Nat → XH → XR) : List Value → List Value → XH → XR := fun vs st h => match vs, st with
  | [.ref a0], [] => f a0 h
  | _, _ => none
set_option maxRecDepth 100000 in
theorem eD_undo (a0 : Nat) (h : XH) : qD_undo a0 h = xrun BD_undo (xfind []) 22 0 (List.zip [0] [.ref a0]) [] h := rfl
theorem tD_undo : XTo cX8_undo 1 RX8 1 5 128 0 [0] (wD_undo (qD_undo)) := by
  refine XTo.run (B := BD_undo) (cut := xfind []) kD_undo (xcuts_ok (fun _ h => absurd h List.not_mem_nil)) 22 (fun vs st h r hr => ?_)
  unfold wD_undo at hr
  split at hr
  · exact (eD_undo _ _).symm.trans hr
  · cases hr
def FD_undo : List Value → XH → XR := fun vs h => match vs with
  | [.ref a0] => qD_undo a0 h
  | _ => none
theorem SD_undo : XS yX8_undo cX8_undo 1 (some .int) (xrm 5 128) FD_undo := by
  refine XS.of (own := RX8) (by decide) rfl (rk := 1) rfl (tD_undo) (fun vs h r hr => ?_)
  unfold FD_undo at hr
  split at hr
  · exact ⟨rfl, Nat.le_of_ble_eq_true rfl, hr⟩
  · cases hr
-- LineDiagramModel.undo()I
def rM_undo : List (Nat × XRow) := [(0, (.aload_n 0, 1, 0, .null, [])),
  (1, (.getfield 85, 4, 85, .null, [])),
  (4, (.ifCond .ne 5, 7, 9, .null, [])),
  (7, (.iconst (-1), 8, 0, .int (-1 : Int32), [])),
  (8, (.ireturn, 9, 0, .null, [])),
  (9, (.aload_n 0, 10, 0, .null, [])),
  (10, (.dup, 11, 0, .null, [])),
  (11, (.getfield 85, 14, 85, .null, [])),
  (14, (.iconst 1, 15, 0, .int (1 : Int32), [])),
  (15, (.isub, 16, 0, .null, [])),
  (16, (.putfield 85, 19, 85, .null, [])),
  (19, (.iconst 0, 20, 0, .int (0 : Int32), [])),
  (20, (.istore_n 1, 21, 1, .null, [])),
  (21, (.iload_n 1, 22, 1, .null, [])),
  (22, (.sipush 1784, 25, 0, .int (1784 : Int32), [])),
  (25, (.if_icmp .ge 30, 28, 55, .null, [])),
  (28, (.aload_n 0, 29, 0, .null, [])),
  (29, (.getfield 21, 32, 21, .null, [])),
  (32, (.iload_n 1, 33, 1, .null, [])),
  (33, (.aload_n 0, 34, 0, .null, [])),
  (34, (.getfield 27, 37, 27, .null, [])),
  (37, (.sipush 1784, 40, 0, .int (1784 : Int32), [])),
  (40, (.aload_n 0, 41, 0, .null, [])),
  (41, (.getfield 85, 44, 85, .null, [])),
  (44, (.imul, 45, 0, .null, [])),
  (45, (.iload_n 1, 46, 1, .null, [])),
  (46, (.iadd, 47, 0, .null, [])),
  (47, (.iaload, 48, 0, .null, [])),
  (48, (.iastore, 49, 0, .null, [])),
  (49, (.iinc 1 1, 52, 1, .int (1 : Int32), [])),
  (52, (.goto (-31), 55, 21, .null, [])),
  (55, (.aload_n 0, 56, 0, .null, [])),
  (56, (.getfield 85, 59, 85, .null, [])),
  (59, (.ireturn, 60, 0, .null, []))]
def mM_undo : List (Nat × XM) := []
abbrev BM_undo : XB := (rM_undo, XFT_M, mM_undo, 1, XST_M)
set_option maxRecDepth 100000 in
theorem kM_undo : XOK BM_undo cX9_undo 2 RX9 0 0 := xok_of (cps := []) (K := XKT_M) (by decide +kernel) XKT_M_ok (fun _ h => absurd h List.not_mem_nil) XFT_M_ok (fun _ h => absurd h List.not_mem_nil) XST_M_ok
def wM_undo_55 (f : Nat → XH → XR) : List Value → List Value → XH → XR := fun vs st h => match vs, st with
  | [.ref a0], [] => f a0 h
  | _, _ => none
def wM_undo_21 (f : Nat → Int32 → XH → XR) : List Value → List Value → XH → XR := fun vs st h => match vs, st with
  | [.ref a0, .int x1], [] => f a0 x1 h
  | _, _ => none
def wM_undo (f : Nat → XH → XR) : List Value → List Value → XH → XR := fun vs st h => match vs, st with
  | [.ref a0], [] => f a0 h
  | _, _ => none
set_option maxRecDepth 100000 in
theorem eM_undo_55 (a0 : Nat) (h : XH) : qM_undo_55 a0 h = xrun BM_undo (xfind []) 37 55 (List.zip [0] [.ref a0]) [] h := rfl
theorem tM_undo_55 : XTo cX9_undo 2 RX9 1 0 0 55 [0] (wM_undo_55 (qM_undo_55)) := by
  refine XTo.run (B := BM_undo) (cut := xfind []) kM_undo (xcuts_ok (fun _ h => absurd h List.not_mem_nil)) 37 (fun vs st h r hr => ?_)
  unfold wM_undo_55 at hr
  split at hr
  · exact (eM_undo_55 _ _).symm.trans hr
  · cases hr
set_option maxRecDepth 100000 in
theorem eM_undo_21_b (k21 : Nat → Int32 → XH → XR) (a0 : Nat) (x1 : Int32) (h : XH) : qM_undo_21_b k21 a0 x1 h = xrun BM_undo (xfind [(21, ([0, 1], wM_undo_21 (k21))), (55, ([0], wM_undo_55 (qM_undo_55)))]) 37 21 (List.zip [0, 1] [.ref a0, .int x1]) [] h := rfl
theorem tM_undo_21_b {k21 : Nat → Int32 → XH → XR} (hk21 : XTo cX9_undo 2 RX9 1 0 0 21 [0, 1] (wM_undo_21 k21)) : XTo cX9_undo 2 RX9 1 0 0 21 [0, 1] (wM_undo_21 (qM_undo_21_b k21)) := by
  refine XTo.run (B := BM_undo) (cut := xfind [(21, ([0, 1], wM_undo_21 (k21))), (55, ([0], wM_undo_55 (qM_undo_55)))]) kM_undo (xcuts_ok (List.forall_mem_cons.mpr ⟨hk21, List.forall_mem_cons.mpr ⟨tM_undo_55, fun _ h => absurd h List.not_mem_nil⟩⟩)) 37 (fun vs st h r hr => ?_)
  unfold wM_undo_21 at hr
  split at hr
  · exact (eM_undo_21_b k21 _ _ _).symm.trans hr
  · cases hr
theorem tM_undo_21 : ∀ n : Nat, XTo cX9_undo 2 RX9 1 0 0 21 [0, 1] (wM_undo_21 (qM_undo_21 n)) := by
  intro n
  induction n with
  | zero =>
    refine XTo.none fun vs st h => ?_
    unfold wM_undo_21
    split <;> rfl
  | succ n ih => exact tM_undo_21_b  ih
set_option maxRecDepth 100000 in
theorem eM_undo (a0 : Nat) (h : XH) : qM_undo a0 h = xrun BM_undo (xfind [(21, ([0, 1], wM_undo_21 (qM_undo_21 LF)))]) 37 0 (List.zip [0] [.ref a0]) [] h := rfl
theorem tM_undo : XTo cX9_undo 2 RX9 1 0 0 0 [0] (wM_undo (qM_undo)) := by
  refine XTo.run (B := BM_undo) (cut := xfind [(21, ([0, 1], wM_undo_21 (qM_undo_21 LF)))]) kM_undo (xcuts_ok (List.forall_mem_cons.mpr ⟨tM_undo_21 LF, fun _ h => absurd h List.not_mem_nil⟩)) 37 (fun vs st h r hr => ?_)
  unfold wM_undo at hr
  split at hr
  · exact (eM_undo _ _).symm.trans hr
  · cases hr
def FM_undo : List Value → XH → XR := fun vs h => match vs with
  | [.ref a0] => qM_undo a0 h
  | _ => none
theorem SM_undo : XS yX9_undo cX9_undo 2 (some .int) (xrm 0 0) FM_undo := by
  refine XS.of (own := RX9) (by decide) rfl (rk := 1) rfl (tM_undo) (fun vs h r hr => ?_)
  unfold FM_undo at hr
  split at hr
  · exact ⟨rfl, Nat.le_of_ble_eq_true rfl, hr⟩
  · cases hr
-- LineDiagram$Plan.countStations()I
def rP_countStations : List (Nat × XRow) := [(0, (.iconst 0, 1, 0, .int (0 : Int32), [])),
  (1, (.istore_n 1, 2, 1, .null, [])),
  (2, (.iconst 0, 3, 0, .int (0 : Int32), [])),
  (3, (.istore_n 2, 4, 2, .null, [])),
  (4, (.iload_n 2, 5, 2, .null, [])),
  (5, (.aload_n 0, 6, 0, .null, [])),
  (6, (.getfield 35, 9, 35, .null, [])),
  (9, (.if_icmp .ge 21, 12, 30, .null, [])),
  (12, (.iload_n 1, 13, 1, .null, [])),
  (13, (.aload_n 0, 14, 0, .null, [])),
  (14, (.getfield 11, 17, 11, .null, [])),
  (17, (.iload_n 2, 18, 2, .null, [])),
  (18, (.aaload, 19, 0, .null, [])),
  (19, (.getfield 48, 22, 48, .null, [])),
  (22, (.iadd, 23, 0, .null, [])),
  (23, (.istore_n 1, 24, 1, .null, [])),
  (24, (.iinc 2 1, 27, 2, .int (1 : Int32), [])),
  (27, (.goto (-23), 30, 4, .null, [])),
  (30, (.iload_n 1, 31, 1, .null, [])),
  (31, (.ireturn, 32, 0, .null, []))]
def mP_countStations : List (Nat × XM) := []
abbrev BP_countStations : XB := (rP_countStations, XFT_P, mP_countStations, 1, XST_P)
set_option maxRecDepth 100000 in
theorem kP_countStations : XOK BP_countStations cX5_countStations 3 RX5 0 0 := xok_of (cps := []) (K := XKT_P) (by decide +kernel) XKT_P_ok (fun _ h => absurd h List.not_mem_nil) XFT_P_ok (fun _ h => absurd h List.not_mem_nil) XST_P_ok
def wP_countStations_4 (f : Nat → Int32 → Int32 → XH → XR) : List Value → List Value → XH → XR := fun vs st h => match vs, st with
  | [.ref a0, .int x1, .int x2], [] => f a0 x1 x2 h
  | _, _ => none
def wP_countStations (f : Nat → XH → XR) : List Value → List Value → XH → XR := fun vs st h => match vs, st with
  | [.ref a0], [] => f a0 h
  | _, _ => none
set_option maxRecDepth 100000 in
theorem eP_countStations_4_b (k4 : Nat → Int32 → Int32 → XH → XR) (a0 : Nat) (x1 : Int32) (x2 : Int32) (h : XH) : qP_countStations_4_b k4 a0 x1 x2 h = xrun BP_countStations (xfind [(4, ([0, 1, 2], wP_countStations_4 (k4)))]) 23 4 (List.zip [0, 1, 2] [.ref a0, .int x1, .int x2]) [] h := rfl
theorem tP_countStations_4_b {k4 : Nat → Int32 → Int32 → XH → XR} (hk4 : XTo cX5_countStations 3 RX5 1 0 0 4 [0, 1, 2] (wP_countStations_4 k4)) : XTo cX5_countStations 3 RX5 1 0 0 4 [0, 1, 2] (wP_countStations_4 (qP_countStations_4_b k4)) := by
  refine XTo.run (B := BP_countStations) (cut := xfind [(4, ([0, 1, 2], wP_countStations_4 (k4)))]) kP_countStations (xcuts_ok (List.forall_mem_cons.mpr ⟨hk4, fun _ h => absurd h List.not_mem_nil⟩)) 23 (fun vs st h r hr => ?_)
  unfold wP_countStations_4 at hr
  split at hr
  · exact (eP_countStations_4_b k4 _ _ _ _).symm.trans hr
  · cases hr
theorem tP_countStations_4 : ∀ n : Nat, XTo cX5_countStations 3 RX5 1 0 0 4 [0, 1, 2] (wP_countStations_4 (qP_countStations_4 n)) := by
  intro n
  induction n with
  | zero =>
    refine XTo.none fun vs st h => ?_
    unfold wP_countStations_4
    split <;> rfl
  | succ n ih => exact tP_countStations_4_b  ih
set_option maxRecDepth 100000 in
theorem eP_countStations (a0 : Nat) (h : XH) : qP_countStations a0 h = xrun BP_countStations (xfind [(4, ([0, 1, 2], wP_countStations_4 (qP_countStations_4 LF)))]) 23 0 (List.zip [0] [.ref a0]) [] h := rfl
theorem tP_countStations : XTo cX5_countStations 3 RX5 1 0 0 0 [0] (wP_countStations (qP_countStations)) := by
  refine XTo.run (B := BP_countStations) (cut := xfind [(4, ([0, 1, 2], wP_countStations_4 (qP_countStations_4 LF)))]) kP_countStations (xcuts_ok (List.forall_mem_cons.mpr ⟨tP_countStations_4 LF, fun _ h => absurd h List.not_mem_nil⟩)) 23 (fun vs st h r hr => ?_)
  unfold wP_countStations at hr
  split at hr
  · exact (eP_countStations _ _).symm.trans hr
  · cases hr
def FP_countStations : List Value → XH → XR := fun vs h => match vs with
  | [.ref a0] => qP_countStations a0 h
  | _ => none
theorem SP_countStations : XS yX5_countStations cX5_countStations 3 (some .int) (xrm 0 0) FP_countStations := by
  refine XS.of (own := RX5) (by decide) rfl (rk := 1) rfl (tP_countStations) (fun vs h r hr => ?_)
  unfold FP_countStations at hr
  split at hr
  · exact ⟨rfl, Nat.le_of_ble_eq_true rfl, hr⟩
  · cases hr
-- LineDiagram$Board.countMarked([I)I
def rB_countMarked : List (Nat × XRow) := [(0, (.iconst 0, 1, 0, .int (0 : Int32), [])),
  (1, (.istore_n 1, 2, 1, .null, [])),
  (2, (.aload_n 0, 3, 0, .null, [])),
  (3, (.astore_n 2, 4, 2, .null, [])),
  (4, (.aload_n 2, 5, 2, .null, [])),
  (5, (.arraylength, 6, 0, .null, [])),
  (6, (.istore_n 3, 7, 3, .null, [])),
  (7, (.iconst 0, 8, 0, .int (0 : Int32), [])),
  (8, (.istore 4, 10, 4, .null, [])),
  (10, (.iload 4, 12, 4, .null, [])),
  (12, (.iload_n 3, 13, 3, .null, [])),
  (13, (.if_icmp .ge 23, 16, 36, .null, [])),
  (16, (.aload_n 2, 17, 2, .null, [])),
  (17, (.iload 4, 19, 4, .null, [])),
  (19, (.iaload, 20, 0, .null, [])),
  (20, (.istore 5, 22, 5, .null, [])),
  (22, (.iload 5, 24, 5, .null, [])),
  (24, (.ifCond .eq 6, 27, 30, .null, [])),
  (27, (.iinc 1 1, 30, 1, .int (1 : Int32), [])),
  (30, (.iinc 4 1, 33, 4, .int (1 : Int32), [])),
  (33, (.goto (-23), 36, 10, .null, [])),
  (36, (.iload_n 1, 37, 1, .null, [])),
  (37, (.ireturn, 38, 0, .null, []))]
def mB_countMarked : List (Nat × XM) := []
abbrev BB_countMarked : XB := (rB_countMarked, XFT_B, mB_countMarked, 1, XST_B)
set_option maxRecDepth 100000 in
theorem kB_countMarked : XOK BB_countMarked cX0_countMarked 6 RX0 0 0 := xok_of (cps := []) (K := XKT_B) (by decide +kernel) XKT_B_ok (fun _ h => absurd h List.not_mem_nil) XFT_B_ok (fun _ h => absurd h List.not_mem_nil) XST_B_ok
def wB_countMarked_10 (f : Int32 → Nat → Int32 → Int32 → XH → XR) : List Value → List Value → XH → XR := fun vs st h => match vs, st with
  | [.int x1, .ref a2, .int x3, .int x4], [] => f x1 a2 x3 x4 h
  | _, _ => none
def wB_countMarked (f : Nat → XH → XR) : List Value → List Value → XH → XR := fun vs st h => match vs, st with
  | [.ref a0], [] => f a0 h
  | _, _ => none
set_option maxRecDepth 100000 in
theorem eB_countMarked_10_b (k10 : Int32 → Nat → Int32 → Int32 → XH → XR) (x1 : Int32) (a2 : Nat) (x3 : Int32) (x4 : Int32) (h : XH) : qB_countMarked_10_b k10 x1 a2 x3 x4 h = xrun BB_countMarked (xfind [(10, ([1, 2, 3, 4], wB_countMarked_10 (k10)))]) 26 10 (List.zip [1, 2, 3, 4] [.int x1, .ref a2, .int x3, .int x4]) [] h := rfl
theorem tB_countMarked_10_b {k10 : Int32 → Nat → Int32 → Int32 → XH → XR} (hk10 : XTo cX0_countMarked 6 RX0 1 0 0 10 [1, 2, 3, 4] (wB_countMarked_10 k10)) : XTo cX0_countMarked 6 RX0 1 0 0 10 [1, 2, 3, 4] (wB_countMarked_10 (qB_countMarked_10_b k10)) := by
  refine XTo.run (B := BB_countMarked) (cut := xfind [(10, ([1, 2, 3, 4], wB_countMarked_10 (k10)))]) kB_countMarked (xcuts_ok (List.forall_mem_cons.mpr ⟨hk10, fun _ h => absurd h List.not_mem_nil⟩)) 26 (fun vs st h r hr => ?_)
  unfold wB_countMarked_10 at hr
  split at hr
  · exact (eB_countMarked_10_b k10 _ _ _ _ _).symm.trans hr
  · cases hr
theorem tB_countMarked_10 : ∀ n : Nat, XTo cX0_countMarked 6 RX0 1 0 0 10 [1, 2, 3, 4] (wB_countMarked_10 (qB_countMarked_10 n)) := by
  intro n
  induction n with
  | zero =>
    refine XTo.none fun vs st h => ?_
    unfold wB_countMarked_10
    split <;> rfl
  | succ n ih => exact tB_countMarked_10_b  ih
set_option maxRecDepth 100000 in
theorem eB_countMarked (a0 : Nat) (h : XH) : qB_countMarked a0 h = xrun BB_countMarked (xfind [(10, ([1, 2, 3, 4], wB_countMarked_10 (qB_countMarked_10 LF)))]) 26 0 (List.zip [0] [.ref a0]) [] h := rfl
theorem tB_countMarked : XTo cX0_countMarked 6 RX0 1 0 0 0 [0] (wB_countMarked (qB_countMarked)) := by
  refine XTo.run (B := BB_countMarked) (cut := xfind [(10, ([1, 2, 3, 4], wB_countMarked_10 (qB_countMarked_10 LF)))]) kB_countMarked (xcuts_ok (List.forall_mem_cons.mpr ⟨tB_countMarked_10 LF, fun _ h => absurd h List.not_mem_nil⟩)) 26 (fun vs st h r hr => ?_)
  unfold wB_countMarked at hr
  split at hr
  · exact (eB_countMarked _ _).symm.trans hr
  · cases hr
def FB_countMarked : List Value → XH → XR := fun vs h => match vs with
  | [.ref a0] => qB_countMarked a0 h
  | _ => none
theorem SB_countMarked : XS yX0_countMarked cX0_countMarked 6 (some .int) (xrm 0 0) FB_countMarked := by
  refine XS.of (own := RX0) (by decide) rfl (rk := 1) rfl (tB_countMarked) (fun vs h r hr => ?_)
  unfold FB_countMarked at hr
  split at hr
  · exact ⟨rfl, Nat.le_of_ble_eq_true rfl, hr⟩
  · cases hr
-- LineDiagram$Board.countPlaces()I
def rB_countPlaces : List (Nat × XRow) := [(0, (.aload_n 0, 1, 0, .null, [])),
  (1, (.getfield 18, 4, 18, .null, [])),
  (4, (.invokestatic 117, 7, 117, .null, [])),
  (7, (.ireturn, 8, 0, .null, []))]
def mB_countPlaces : List (Nat × XM) := [(117, (1, 1, none, FB_countMarked))]
abbrev BB_countPlaces : XB := (rB_countPlaces, XFT_B, mB_countPlaces, 1, XST_B)
set_option maxRecDepth 100000 in
theorem kB_countPlaces : XOK BB_countPlaces cX0_countPlaces 1 RX0 1 25 := xok_of (cps := []) (K := XKT_B) (by decide +kernel) XKT_B_ok (fun _ h => absurd h List.not_mem_nil) XFT_B_ok (List.forall_mem_cons.mpr ⟨⟨_, _, _, _, _, _, SB_countMarked, Nat.le_of_ble_eq_true rfl, Nat.le_of_ble_eq_true rfl, cdB_countMarked, lkB_117, imB_countMarked, inB_countMarked, pmB_countMarked⟩, fun _ h => absurd h List.not_mem_nil⟩) XST_B_ok
def wB_countPlaces (f : Nat → XH → XR) : List Value → List Value → XH → XR := fun vs st h => match vs, st with
  | [.ref a0], [] => f a0 h
  | _, _ => none
set_option maxRecDepth 100000 in
theorem eB_countPlaces (a0 : Nat) (h : XH) : qB_countPlaces a0 h = xrun BB_countPlaces (xfind []) 7 0 (List.zip [0] [.ref a0]) [] h := rfl
theorem tB_countPlaces : XTo cX0_countPlaces 1 RX0 1 1 25 0 [0] (wB_countPlaces (qB_countPlaces)) := by
  refine XTo.run (B := BB_countPlaces) (cut := xfind []) kB_countPlaces (xcuts_ok (fun _ h => absurd h List.not_mem_nil)) 7 (fun vs st h r hr => ?_)
  unfold wB_countPlaces at hr
  split at hr
  · exact (eB_countPlaces _ _).symm.trans hr
  · cases hr
def FB_countPlaces : List Value → XH → XR := fun vs h => match vs with
  | [.ref a0] => qB_countPlaces a0 h
  | _ => none
theorem SB_countPlaces : XS yX0_countPlaces cX0_countPlaces 1 (some .int) (xrm 1 25) FB_countPlaces := by
  refine XS.of (own := RX0) (by decide) rfl (rk := 1) rfl (tB_countPlaces) (fun vs h r hr => ?_)
  unfold FB_countPlaces at hr
  split at hr
  · exact ⟨rfl, Nat.le_of_ble_eq_true rfl, hr⟩
  · cases hr
-- LineDiagram$Board.countLineCells()I
def rB_countLineCells : List (Nat × XRow) := [(0, (.aload_n 0, 1, 0, .null, [])),
  (1, (.getfield 9, 4, 9, .null, [])),
  (4, (.invokestatic 117, 7, 117, .null, [])),
  (7, (.ireturn, 8, 0, .null, []))]
def mB_countLineCells : List (Nat × XM) := [(117, (1, 1, none, FB_countMarked))]
abbrev BB_countLineCells : XB := (rB_countLineCells, XFT_B, mB_countLineCells, 1, XST_B)
set_option maxRecDepth 100000 in
theorem kB_countLineCells : XOK BB_countLineCells cX0_countLineCells 1 RX0 1 25 := xok_of (cps := []) (K := XKT_B) (by decide +kernel) XKT_B_ok (fun _ h => absurd h List.not_mem_nil) XFT_B_ok (List.forall_mem_cons.mpr ⟨⟨_, _, _, _, _, _, SB_countMarked, Nat.le_of_ble_eq_true rfl, Nat.le_of_ble_eq_true rfl, cdB_countMarked, lkB_117, imB_countMarked, inB_countMarked, pmB_countMarked⟩, fun _ h => absurd h List.not_mem_nil⟩) XST_B_ok
def wB_countLineCells (f : Nat → XH → XR) : List Value → List Value → XH → XR := fun vs st h => match vs, st with
  | [.ref a0], [] => f a0 h
  | _, _ => none
set_option maxRecDepth 100000 in
theorem eB_countLineCells (a0 : Nat) (h : XH) : qB_countLineCells a0 h = xrun BB_countLineCells (xfind []) 7 0 (List.zip [0] [.ref a0]) [] h := rfl
theorem tB_countLineCells : XTo cX0_countLineCells 1 RX0 1 1 25 0 [0] (wB_countLineCells (qB_countLineCells)) := by
  refine XTo.run (B := BB_countLineCells) (cut := xfind []) kB_countLineCells (xcuts_ok (fun _ h => absurd h List.not_mem_nil)) 7 (fun vs st h r hr => ?_)
  unfold wB_countLineCells at hr
  split at hr
  · exact (eB_countLineCells _ _).symm.trans hr
  · cases hr
def FB_countLineCells : List Value → XH → XR := fun vs h => match vs with
  | [.ref a0] => qB_countLineCells a0 h
  | _ => none
theorem SB_countLineCells : XS yX0_countLineCells cX0_countLineCells 1 (some .int) (xrm 1 25) FB_countLineCells := by
  refine XS.of (own := RX0) (by decide) rfl (rk := 1) rfl (tB_countLineCells) (fun vs h r hr => ?_)
  unfold FB_countLineCells at hr
  split at hr
  · exact ⟨rfl, Nat.le_of_ble_eq_true rfl, hr⟩
  · cases hr
-- LineDiagram$Board.countLabelCells()I
def rB_countLabelCells : List (Nat × XRow) := [(0, (.aload_n 0, 1, 0, .null, [])),
  (1, (.getfield 27, 4, 27, .null, [])),
  (4, (.invokestatic 117, 7, 117, .null, [])),
  (7, (.ireturn, 8, 0, .null, []))]
def mB_countLabelCells : List (Nat × XM) := [(117, (1, 1, none, FB_countMarked))]
abbrev BB_countLabelCells : XB := (rB_countLabelCells, XFT_B, mB_countLabelCells, 1, XST_B)
set_option maxRecDepth 100000 in
theorem kB_countLabelCells : XOK BB_countLabelCells cX0_countLabelCells 1 RX0 1 25 := xok_of (cps := []) (K := XKT_B) (by decide +kernel) XKT_B_ok (fun _ h => absurd h List.not_mem_nil) XFT_B_ok (List.forall_mem_cons.mpr ⟨⟨_, _, _, _, _, _, SB_countMarked, Nat.le_of_ble_eq_true rfl, Nat.le_of_ble_eq_true rfl, cdB_countMarked, lkB_117, imB_countMarked, inB_countMarked, pmB_countMarked⟩, fun _ h => absurd h List.not_mem_nil⟩) XST_B_ok
def wB_countLabelCells (f : Nat → XH → XR) : List Value → List Value → XH → XR := fun vs st h => match vs, st with
  | [.ref a0], [] => f a0 h
  | _, _ => none
set_option maxRecDepth 100000 in
theorem eB_countLabelCells (a0 : Nat) (h : XH) : qB_countLabelCells a0 h = xrun BB_countLabelCells (xfind []) 7 0 (List.zip [0] [.ref a0]) [] h := rfl
theorem tB_countLabelCells : XTo cX0_countLabelCells 1 RX0 1 1 25 0 [0] (wB_countLabelCells (qB_countLabelCells)) := by
  refine XTo.run (B := BB_countLabelCells) (cut := xfind []) kB_countLabelCells (xcuts_ok (fun _ h => absurd h List.not_mem_nil)) 7 (fun vs st h r hr => ?_)
  unfold wB_countLabelCells at hr
  split at hr
  · exact (eB_countLabelCells _ _).symm.trans hr
  · cases hr
def FB_countLabelCells : List Value → XH → XR := fun vs h => match vs with
  | [.ref a0] => qB_countLabelCells a0 h
  | _ => none
theorem SB_countLabelCells : XS yX0_countLabelCells cX0_countLabelCells 1 (some .int) (xrm 1 25) FB_countLabelCells := by
  refine XS.of (own := RX0) (by decide) rfl (rk := 1) rfl (tB_countLabelCells) (fun vs h r hr => ?_)
  unfold FB_countLabelCells at hr
  split at hr
  · exact ⟨rfl, Nat.le_of_ble_eq_true rfl, hr⟩
  · cases hr
-- LineDiagram$Board.isOfTwo(I)Z
def rB_isOfTwo : List (Nat × XRow) := [(0, (.iload_n 0, 1, 0, .null, [])),
  (1, (.iload_n 0, 2, 0, .null, [])),
  (2, (.iconst 1, 3, 0, .int (1 : Int32), [])),
  (3, (.isub, 4, 0, .null, [])),
  (4, (.iand, 5, 0, .null, [])),
  (5, (.ifCond .eq 7, 8, 12, .null, [])),
  (8, (.iconst 1, 9, 0, .int (1 : Int32), [])),
  (9, (.goto 4, 12, 13, .null, [])),
  (12, (.iconst 0, 13, 0, .int (0 : Int32), [])),
  (13, (.ireturn, 14, 0, .null, []))]
def mB_isOfTwo : List (Nat × XM) := []
abbrev BB_isOfTwo : XB := (rB_isOfTwo, XFT_B, mB_isOfTwo, 6, XST_B)
set_option maxRecDepth 100000 in
theorem kB_isOfTwo : XOK BB_isOfTwo cX0_isOfTwo 1 RX0 0 0 := xok_of (cps := []) (K := XKT_B) (by decide +kernel) XKT_B_ok (fun _ h => absurd h List.not_mem_nil) XFT_B_ok (fun _ h => absurd h List.not_mem_nil) XST_B_ok
def wB_isOfTwo (f : Int32 → XH → XR) : List Value → List Value → XH → XR := fun vs st h => match vs, st with
  | [.int x0], [] => f x0 h
  | _, _ => none
set_option maxRecDepth 100000 in
theorem eB_isOfTwo (x0 : Int32) (h : XH) : qB_isOfTwo x0 h = xrun BB_isOfTwo (xfind []) 13 0 (List.zip [0] [.int x0]) [] h := rfl
theorem tB_isOfTwo : XTo cX0_isOfTwo 1 RX0 6 0 0 0 [0] (wB_isOfTwo (qB_isOfTwo)) := by
  refine XTo.run (B := BB_isOfTwo) (cut := xfind []) kB_isOfTwo (xcuts_ok (fun _ h => absurd h List.not_mem_nil)) 13 (fun vs st h r hr => ?_)
  unfold wB_isOfTwo at hr
  split at hr
  · exact (eB_isOfTwo _ _).symm.trans hr
  · cases hr
def FB_isOfTwo : List Value → XH → XR := fun vs h => match vs with
  | [.int x0] => qB_isOfTwo x0 h
  | _ => none
theorem SB_isOfTwo : XS yX0_isOfTwo cX0_isOfTwo 1 (some .boolean) (xrm 0 0) FB_isOfTwo := by
  refine XS.of (own := RX0) (by decide) rfl (rk := 6) rfl (tB_isOfTwo) (fun vs h r hr => ?_)
  unfold FB_isOfTwo at hr
  split at hr
  · exact ⟨rfl, Nat.le_of_ble_eq_true rfl, hr⟩
  · cases hr
