-- LineDiagram.ifMoved(IIIII)I
def rD_ifMoved : List (Nat × XRow) := [(0, (.iload 5, 2, 5, .null, [])),
  (2, (.ifCond .lt 9, 5, 11, .null, [])),
  (5, (.iload 5, 7, 5, .null, [])),
  (7, (.iconst 3, 8, 0, .int (3 : Int32), [])),
  (8, (.if_icmp .le 5, 11, 13, .null, [])),
  (11, (.iconst (-1), 12, 0, .int (-1 : Int32), [])),
  (12, (.ireturn, 13, 0, .null, [])),
  (13, (.aload_n 0, 14, 0, .null, [])),
  (14, (.iload_n 1, 15, 1, .null, [])),
  (15, (.iload_n 2, 16, 2, .null, [])),
  (16, (.iload_n 3, 17, 3, .null, [])),
  (17, (.iload 4, 19, 4, .null, [])),
  (19, (.invokevirtual 107, 22, 107, .null, [])),
  (22, (.istore 6, 24, 6, .null, [])),
  (24, (.iload 6, 26, 6, .null, [])),
  (26, (.ifCond .ge 6, 29, 32, .null, [])),
  (29, (.iload 6, 31, 6, .null, [])),
  (31, (.ireturn, 32, 0, .null, [])),
  (32, (.iload 5, 34, 5, .null, [])),
  (34, (.iconst 3, 35, 0, .int (3 : Int32), [])),
  (35, (.if_icmp .ne 11, 38, 46, .null, [])),
  (38, (.aload_n 0, 39, 0, .null, [])),
  (39, (.getfield 68, 42, 68, .null, [])),
  (42, (.invokevirtual 239, 45, 239, .null, [])),
  (45, (.ireturn, 46, 0, .null, [])),
  (46, (.aload_n 0, 47, 0, .null, [])),
  (47, (.getfield 33, 50, 33, .null, [])),
  (50, (.aload_n 0, 51, 0, .null, [])),
  (51, (.getfield 29, 54, 29, .null, [])),
  (54, (.invokevirtual 94, 57, 94, .null, [])),
  (57, (.aload_n 0, 58, 0, .null, [])),
  (58, (.iload_n 1, 59, 1, .null, [])),
  (59, (.invokevirtual 320, 62, 320, .null, [])),
  (62, (.istore 7, 64, 7, .null, [])),
  (64, (.iload 5, 66, 5, .null, [])),
  (66, (.iconst 1, 67, 0, .int (1 : Int32), [])),
  (67, (.if_icmp .ne 18, 70, 85, .null, [])),
  (70, (.aload_n 0, 71, 0, .null, [])),
  (71, (.getfield 54, 74, 54, .null, [])),
  (74, (.sipush 255, 77, 0, .int (255 : Int32), [])),
  (77, (.invokevirtual 230, 80, 230, .null, [])),
  (80, (.istore 7, 82, 7, .null, [])),
  (82, (.goto 21, 85, 103, .null, [])),
  (85, (.iload 5, 87, 5, .null, [])),
  (87, (.iconst 2, 88, 0, .int (2 : Int32), [])),
  (88, (.if_icmp .ne 15, 91, 103, .null, [])),
  (91, (.aload_n 0, 92, 0, .null, [])),
  (92, (.getfield 54, 95, 54, .null, [])),
  (95, (.sipush 255, 98, 0, .int (255 : Int32), [])),
  (98, (.invokevirtual 233, 101, 233, .null, [])),
  (101, (.istore 7, 103, 7, .null, [])),
  (103, (.aload_n 0, 104, 0, .null, [])),
  (104, (.aload_n 0, 105, 0, .null, [])),
  (105, (.getfield 33, 108, 33, .null, [])),
  (108, (.invokevirtual 202, 111, 202, .null, [])),
  (111, (.iload 7, 113, 7, .null, [])),
  (113, (.ireturn, 114, 0, .null, []))]
def mD_ifMoved : List (Nat × XM) := [(94, (2, 0, some 5, FP_copyFrom)), (107, (5, 1, some 8, FD_tryMove)), (202, (2, 0, some 8, FD_show)), (230, (2, 1, some 0, FB_countCrossings)), (233, (2, 1, some 0, FB_countBetween)), (239, (1, 1, some 3, FLn_steps)), (320, (2, 1, some 8, FD_putTrial))]
abbrev BD_ifMoved : XB := (rD_ifMoved, XFT_D, mD_ifMoved, 1, XST_D)
set_option maxRecDepth 100000 in
theorem kD_ifMoved : XOK BD_ifMoved cX8_ifMoved 8 RX8 6 133 := xok_of (cps := []) (K := XKT_D) (by decide +kernel) XKT_D_ok (fun _ h => absurd h List.not_mem_nil) XFT_D_ok (List.forall_mem_cons.mpr ⟨⟨_, _, _, _, _, _, _, SP_copyFrom, rfl, rfl, Nat.le_of_ble_eq_true rfl, Nat.le_of_ble_eq_true rfl, cdP_copyFrom, lkD_94, imP_copyFrom, slP_copyFrom, inP_copyFrom, pmP_copyFrom⟩, List.forall_mem_cons.mpr ⟨⟨_, _, _, _, _, _, _, SD_tryMove, rfl, rfl, Nat.le_of_ble_eq_true rfl, Nat.le_of_ble_eq_true rfl, cdD_tryMove, lkD_107, imD_tryMove, slD_tryMove, inD_tryMove, pmD_tryMove⟩, List.forall_mem_cons.mpr ⟨⟨_, _, _, _, _, _, _, SD_show, rfl, rfl, Nat.le_of_ble_eq_true rfl, Nat.le_of_ble_eq_true rfl, cdD_show, lkD_202, imD_show, slD_show, inD_show, pmD_show⟩, List.forall_mem_cons.mpr ⟨⟨_, _, _, _, _, _, _, SB_countCrossings, rfl, rfl, Nat.le_of_ble_eq_true rfl, Nat.le_of_ble_eq_true rfl, cdB_countCrossings, lkD_230, imB_countCrossings, slB_countCrossings, inB_countCrossings, pmB_countCrossings⟩, List.forall_mem_cons.mpr ⟨⟨_, _, _, _, _, _, _, SB_countBetween, rfl, rfl, Nat.le_of_ble_eq_true rfl, Nat.le_of_ble_eq_true rfl, cdB_countBetween, lkD_233, imB_countBetween, slB_countBetween, inB_countBetween, pmB_countBetween⟩, List.forall_mem_cons.mpr ⟨⟨_, _, _, _, _, _, _, SLn_steps, rfl, rfl, Nat.le_of_ble_eq_true rfl, Nat.le_of_ble_eq_true rfl, cdLn_steps, lkD_239, imLn_steps, slLn_steps, inLn_steps, pmLn_steps⟩, List.forall_mem_cons.mpr ⟨⟨_, _, _, _, _, _, _, SD_putTrial, rfl, rfl, Nat.le_of_ble_eq_true rfl, Nat.le_of_ble_eq_true rfl, cdD_putTrial, lkD_320, imD_putTrial, slD_putTrial, inD_putTrial, pmD_putTrial⟩, fun _ h => absurd h List.not_mem_nil⟩⟩⟩⟩⟩⟩⟩) XST_D_ok
def wD_ifMoved_103 (f : Nat → Int32 → XH → XR) : List Value → List Value → XH → XR := fun vs st h => match vs, st with
  | [.ref a0, .int x7], [] => f a0 x7 h
  | _, _ => none
def wD_ifMoved (f : Nat → Int32 → Int32 → Int32 → Int32 → Int32 → XH → XR) : List Value → List Value → XH → XR := fun vs st h => match vs, st with
  | [.ref a0, .int x1, .int x2, .int x3, .int x4, .int x5], [] => f a0 x1 x2 x3 x4 x5 h
  | _, _ => none
set_option maxRecDepth 100000 in
theorem eD_ifMoved_103 (a0 : Nat) (x7 : Int32) (h : XH) : qD_ifMoved_103 a0 x7 h = xrun BD_ifMoved (xfind []) 60 103 (List.zip [0, 7] [.ref a0, .int x7]) [] h := rfl
theorem tD_ifMoved_103 : XTo cX8_ifMoved 8 RX8 1 6 133 103 [0, 7] (wD_ifMoved_103 (qD_ifMoved_103)) := by
  refine XTo.run (B := BD_ifMoved) (cut := xfind []) kD_ifMoved (xcuts_ok (fun _ h => absurd h List.not_mem_nil)) 60 (fun vs st h r hr => ?_)
  unfold wD_ifMoved_103 at hr
  split at hr
  · exact (eD_ifMoved_103 _ _ _).symm.trans hr
  · cases hr
set_option maxRecDepth 100000 in
theorem eD_ifMoved (a0 : Nat) (x1 : Int32) (x2 : Int32) (x3 : Int32) (x4 : Int32) (x5 : Int32) (h : XH) : qD_ifMoved a0 x1 x2 x3 x4 x5 h = xrun BD_ifMoved (xfind [(103, ([0, 7], wD_ifMoved_103 (qD_ifMoved_103)))]) 60 0 (List.zip [0, 1, 2, 3, 4, 5] [.ref a0, .int x1, .int x2, .int x3, .int x4, .int x5]) [] h := rfl
theorem tD_ifMoved : XTo cX8_ifMoved 8 RX8 1 6 133 0 [0, 1, 2, 3, 4, 5] (wD_ifMoved (qD_ifMoved)) := by
  refine XTo.run (B := BD_ifMoved) (cut := xfind [(103, ([0, 7], wD_ifMoved_103 (qD_ifMoved_103)))]) kD_ifMoved (xcuts_ok (List.forall_mem_cons.mpr ⟨tD_ifMoved_103, fun _ h => absurd h List.not_mem_nil⟩)) 60 (fun vs st h r hr => ?_)
  unfold wD_ifMoved at hr
  split at hr
  · exact (eD_ifMoved _ _ _ _ _ _ _).symm.trans hr
  · cases hr
def FD_ifMoved : List Value → XH → XR := fun vs h => match vs with
  | [.ref a0, .int x1, .int x2, .int x3, .int x4, .int x5] => qD_ifMoved a0 x1 x2 x3 x4 x5 h
  | _ => none
theorem SD_ifMoved : XS yX8_ifMoved cX8_ifMoved 8 (some .int) (xrm 6 133) FD_ifMoved := by
  refine XS.of (own := RX8) (by decide) rfl (rk := 1) rfl (tD_ifMoved) (fun vs h r hr => ?_)
  unfold FD_ifMoved at hr
  split at hr
  · exact ⟨rfl, Nat.le_of_ble_eq_true rfl, hr⟩
  · cases hr
-- LineDiagramModel.moves(IIII)I
def rM_moves : List (Nat × XRow) := [(0, (.aload_n 0, 1, 0, .null, [])),
  (1, (.iload_n 1, 2, 1, .null, [])),
  (2, (.iload_n 2, 3, 2, .null, [])),
  (3, (.iload_n 3, 4, 3, .null, [])),
  (4, (.iload 4, 6, 4, .null, [])),
  (6, (.invokevirtual 349, 9, 349, .null, [])),
  (9, (.istore 5, 11, 5, .null, [])),
  (11, (.iload 5, 13, 5, .null, [])),
  (13, (.ifCond .ge 6, 16, 19, .null, [])),
  (16, (.iload 5, 18, 5, .null, [])),
  (18, (.ireturn, 19, 0, .null, [])),
  (19, (.aload_n 0, 20, 0, .null, [])),
  (20, (.iload_n 1, 21, 1, .null, [])),
  (21, (.iload_n 2, 22, 2, .null, [])),
  (22, (.iload_n 3, 23, 3, .null, [])),
  (23, (.iload 4, 25, 4, .null, [])),
  (25, (.invokevirtual 355, 28, 355, .null, [])),
  (28, (.aload_n 0, 29, 0, .null, [])),
  (29, (.iload_n 1, 30, 1, .null, [])),
  (30, (.invokevirtual 327, 33, 327, .null, [])),
  (33, (.istore 5, 35, 5, .null, [])),
  (35, (.iload 5, 37, 5, .null, [])),
  (37, (.ifCond .ge 8, 40, 45, .null, [])),
  (40, (.iload 5, 42, 5, .null, [])),
  (42, (.goto 7, 45, 49, .null, [])),
  (45, (.aload_n 0, 46, 0, .null, [])),
  (46, (.invokevirtual 333, 49, 333, .null, [])),
  (49, (.ireturn, 50, 0, .null, []))]
def mM_moves : List (Nat × XM) := [(327, (2, 1, some 9, FM_faultOf)), (333, (1, 1, some 9, FM_refits)), (349, (5, 1, some 9, FM_moveFault)), (355, (5, 0, some 9, FM_putsPoint))]
abbrev BM_moves : XB := (rM_moves, XFT_M, mM_moves, 1, XST_M)
set_option maxRecDepth 100000 in
theorem kM_moves : XOK BM_moves cX9_moves 6 RX9 6 139 := xok_of (cps := []) (K := XKT_M) (by decide +kernel) XKT_M_ok (fun _ h => absurd h List.not_mem_nil) XFT_M_ok (List.forall_mem_cons.mpr ⟨⟨_, _, _, _, _, _, _, SM_faultOf, rfl, rfl, Nat.le_of_ble_eq_true rfl, Nat.le_of_ble_eq_true rfl, cdM_faultOf, lkM_327, imM_faultOf, slM_faultOf, inM_faultOf, pmM_faultOf⟩, List.forall_mem_cons.mpr ⟨⟨_, _, _, _, _, _, _, SM_refits, rfl, rfl, Nat.le_of_ble_eq_true rfl, Nat.le_of_ble_eq_true rfl, cdM_refits, lkM_333, imM_refits, slM_refits, inM_refits, pmM_refits⟩, List.forall_mem_cons.mpr ⟨⟨_, _, _, _, _, _, _, SM_moveFault, rfl, rfl, Nat.le_of_ble_eq_true rfl, Nat.le_of_ble_eq_true rfl, cdM_moveFault, lkM_349, imM_moveFault, slM_moveFault, inM_moveFault, pmM_moveFault⟩, List.forall_mem_cons.mpr ⟨⟨_, _, _, _, _, _, _, SM_putsPoint, rfl, rfl, Nat.le_of_ble_eq_true rfl, Nat.le_of_ble_eq_true rfl, cdM_putsPoint, lkM_355, imM_putsPoint, slM_putsPoint, inM_putsPoint, pmM_putsPoint⟩, fun _ h => absurd h List.not_mem_nil⟩⟩⟩⟩) XST_M_ok
def wM_moves (f : Nat → Int32 → Int32 → Int32 → Int32 → XH → XR) : List Value → List Value → XH → XR := fun vs st h => match vs, st with
  | [.ref a0, .int x1, .int x2, .int x3, .int x4], [] => f a0 x1 x2 x3 x4 h
  | _, _ => none
set_option maxRecDepth 100000 in
theorem eM_moves (a0 : Nat) (x1 : Int32) (x2 : Int32) (x3 : Int32) (x4 : Int32) (h : XH) : qM_moves a0 x1 x2 x3 x4 h = xrun BM_moves (xfind []) 31 0 (List.zip [0, 1, 2, 3, 4] [.ref a0, .int x1, .int x2, .int x3, .int x4]) [] h := rfl
theorem tM_moves : XTo cX9_moves 6 RX9 1 6 139 0 [0, 1, 2, 3, 4] (wM_moves (qM_moves)) := by
  refine XTo.run (B := BM_moves) (cut := xfind []) kM_moves (xcuts_ok (fun _ h => absurd h List.not_mem_nil)) 31 (fun vs st h r hr => ?_)
  unfold wM_moves at hr
  split at hr
  · exact (eM_moves _ _ _ _ _ _).symm.trans hr
  · cases hr
def FM_moves : List Value → XH → XR := fun vs h => match vs with
  | [.ref a0, .int x1, .int x2, .int x3, .int x4] => qM_moves a0 x1 x2 x3 x4 h
  | _ => none
theorem SM_moves : XS yX9_moves cX9_moves 6 (some .int) (xrm 6 139) FM_moves := by
  refine XS.of (own := RX9) (by decide) rfl (rk := 1) rfl (tM_moves) (fun vs h r hr => ?_)
  unfold FM_moves at hr
  split at hr
  · exact ⟨rfl, Nat.le_of_ble_eq_true rfl, hr⟩
  · cases hr
-- LineDiagramModel.ifMoved(IIIII)I
def rM_ifMoved : List (Nat × XRow) := [(0, (.iload 5, 2, 5, .null, [])),
  (2, (.i2l, 3, 0, .null, [])),
  (3, (.lconst 0, 4, 0, .long (0 : Int64), [])),
  (4, (.ldc2_w 463, 7, 463, .long (3 : Int64), [])),
  (7, (.invokestatic 96, 10, 96, .null, [])),
  (10, (.ifCond .ne 5, 13, 15, .null, [])),
  (13, (.iconst (-1), 14, 0, .int (-1 : Int32), [])),
  (14, (.ireturn, 15, 0, .null, [])),
  (15, (.aload_n 0, 16, 0, .null, [])),
  (16, (.invokevirtual 352, 19, 352, .null, [])),
  (19, (.aload_n 0, 20, 0, .null, [])),
  (20, (.iload_n 1, 21, 1, .null, [])),
  (21, (.iload_n 2, 22, 2, .null, [])),
  (22, (.iload_n 3, 23, 3, .null, [])),
  (23, (.iload 4, 25, 4, .null, [])),
  (25, (.invokevirtual 465, 28, 465, .null, [])),
  (28, (.istore 6, 30, 6, .null, [])),
  (30, (.iload 6, 32, 6, .null, [])),
  (32, (.ifCond .lt 42, 35, 74, .null, [])),
  (35, (.iload 5, 37, 5, .null, [])),
  (37, (.ifCond .le 37, 40, 74, .null, [])),
  (40, (.iload 5, 42, 5, .null, [])),
  (42, (.iconst 1, 43, 0, .int (1 : Int32), [])),
  (43, (.if_icmp .ne 10, 46, 53, .null, [])),
  (46, (.aload_n 0, 47, 0, .null, [])),
  (47, (.invokevirtual 423, 50, 423, .null, [])),
  (50, (.goto 22, 53, 72, .null, [])),
  (53, (.iload 5, 55, 5, .null, [])),
  (55, (.iconst 2, 56, 0, .int (2 : Int32), [])),
  (56, (.if_icmp .ne 11, 59, 67, .null, [])),
  (59, (.aload_n 0, 60, 0, .null, [])),
  (60, (.iconst 1, 61, 0, .int (1 : Int32), [])),
  (61, (.invokevirtual 426, 64, 426, .null, [])),
  (64, (.goto 8, 67, 72, .null, [])),
  (67, (.aload_n 0, 68, 0, .null, [])),
  (68, (.iload_n 1, 69, 1, .null, [])),
  (69, (.invokevirtual 142, 72, 142, .null, [])),
  (72, (.istore 6, 74, 6, .null, [])),
  (74, (.aload_n 0, 75, 0, .null, [])),
  (75, (.invokevirtual 330, 78, 330, .null, [])),
  (78, (.iload 6, 80, 6, .null, [])),
  (80, (.ireturn, 81, 0, .null, []))]
def mM_ifMoved : List (Nat × XM) := [(96, (3, 1, none, FM_in)), (142, (2, 1, some 9, FM_lengthOf)), (330, (1, 0, some 9, FM_comesBack)), (352, (1, 0, some 9, FM_thinks)), (423, (1, 1, some 9, FM_allCrossings)), (426, (2, 1, some 9, FM_allOf)), (465, (5, 1, some 9, FM_moves))]
abbrev BM_ifMoved : XB := (rM_ifMoved, XFT_M, mM_ifMoved, 1, XST_M)
set_option maxRecDepth 100000 in
theorem kM_ifMoved : XOK BM_ifMoved cX9_ifMoved 7 RX9 7 164 := xok_of (cps := []) (K := XKT_M) (by decide +kernel) XKT_M_ok (fun _ h => absurd h List.not_mem_nil) XFT_M_ok (List.forall_mem_cons.mpr ⟨⟨_, _, _, _, _, _, SM_in, Nat.le_of_ble_eq_true rfl, Nat.le_of_ble_eq_true rfl, cdM_in, lkM_96, imM_in, inM_in, pmM_in⟩, List.forall_mem_cons.mpr ⟨⟨_, _, _, _, _, _, _, SM_lengthOf, rfl, rfl, Nat.le_of_ble_eq_true rfl, Nat.le_of_ble_eq_true rfl, cdM_lengthOf, lkM_142, imM_lengthOf, slM_lengthOf, inM_lengthOf, pmM_lengthOf⟩, List.forall_mem_cons.mpr ⟨⟨_, _, _, _, _, _, _, SM_comesBack, rfl, rfl, Nat.le_of_ble_eq_true rfl, Nat.le_of_ble_eq_true rfl, cdM_comesBack, lkM_330, imM_comesBack, slM_comesBack, inM_comesBack, pmM_comesBack⟩, List.forall_mem_cons.mpr ⟨⟨_, _, _, _, _, _, _, SM_thinks, rfl, rfl, Nat.le_of_ble_eq_true rfl, Nat.le_of_ble_eq_true rfl, cdM_thinks, lkM_352, imM_thinks, slM_thinks, inM_thinks, pmM_thinks⟩, List.forall_mem_cons.mpr ⟨⟨_, _, _, _, _, _, _, SM_allCrossings, rfl, rfl, Nat.le_of_ble_eq_true rfl, Nat.le_of_ble_eq_true rfl, cdM_allCrossings, lkM_423, imM_allCrossings, slM_allCrossings, inM_allCrossings, pmM_allCrossings⟩, List.forall_mem_cons.mpr ⟨⟨_, _, _, _, _, _, _, SM_allOf, rfl, rfl, Nat.le_of_ble_eq_true rfl, Nat.le_of_ble_eq_true rfl, cdM_allOf, lkM_426, imM_allOf, slM_allOf, inM_allOf, pmM_allOf⟩, List.forall_mem_cons.mpr ⟨⟨_, _, _, _, _, _, _, SM_moves, rfl, rfl, Nat.le_of_ble_eq_true rfl, Nat.le_of_ble_eq_true rfl, cdM_moves, lkM_465, imM_moves, slM_moves, inM_moves, pmM_moves⟩, fun _ h => absurd h List.not_mem_nil⟩⟩⟩⟩⟩⟩⟩) XST_M_ok
def wM_ifMoved_74 (f : Nat → Int32 → XH → XR) : List Value → List Value → XH → XR := fun vs st h => match vs, st with
  | [.ref a0, .int x6], [] => f a0 x6 h
  | _, _ => none
def wM_ifMoved_72 (f : Nat → Int32 → XH → XR) : List Value → List Value → XH → XR := fun vs st h => match vs, st with
  | [.ref a0], [.int s0] => f a0 s0 h
  | _, _ => none
def wM_ifMoved (f : Nat → Int32 → Int32 → Int32 → Int32 → Int32 → XH → XR) : List Value → List Value → XH → XR := fun vs st h => match vs, st with
  | [.ref a0, .int x1, .int x2, .int x3, .int x4, .int x5], [] => f a0 x1 x2 x3 x4 x5 h
  | _, _ => none
set_option maxRecDepth 100000 in
theorem eM_ifMoved_74 (a0 : Nat) (x6 : Int32) (h : XH) : qM_ifMoved_74 a0 x6 h = xrun BM_ifMoved (xfind []) 45 74 (List.zip [0, 6] [.ref a0, .int x6]) [] h := rfl
theorem tM_ifMoved_74 : XTo cX9_ifMoved 7 RX9 1 7 164 74 [0, 6] (wM_ifMoved_74 (qM_ifMoved_74)) := by
  refine XTo.run (B := BM_ifMoved) (cut := xfind []) kM_ifMoved (xcuts_ok (fun _ h => absurd h List.not_mem_nil)) 45 (fun vs st h r hr => ?_)
  unfold wM_ifMoved_74 at hr
  split at hr
  · exact (eM_ifMoved_74 _ _ _).symm.trans hr
  · cases hr
set_option maxRecDepth 100000 in
theorem eM_ifMoved_72 (a0 : Nat) (s0 : Int32) (h : XH) : qM_ifMoved_72 a0 s0 h = xrun BM_ifMoved (xfind [(74, ([0, 6], wM_ifMoved_74 (qM_ifMoved_74)))]) 45 72 (List.zip [0] [.ref a0]) [.int s0] h := rfl
theorem tM_ifMoved_72 : XTo cX9_ifMoved 7 RX9 1 7 164 72 [0] (wM_ifMoved_72 (qM_ifMoved_72)) := by
  refine XTo.run (B := BM_ifMoved) (cut := xfind [(74, ([0, 6], wM_ifMoved_74 (qM_ifMoved_74)))]) kM_ifMoved (xcuts_ok (List.forall_mem_cons.mpr ⟨tM_ifMoved_74, fun _ h => absurd h List.not_mem_nil⟩)) 45 (fun vs st h r hr => ?_)
  unfold wM_ifMoved_72 at hr
  split at hr
  · exact (eM_ifMoved_72 _ _ _).symm.trans hr
  · cases hr
set_option maxRecDepth 100000 in
theorem eM_ifMoved (a0 : Nat) (x1 : Int32) (x2 : Int32) (x3 : Int32) (x4 : Int32) (x5 : Int32) (h : XH) : qM_ifMoved a0 x1 x2 x3 x4 x5 h = xrun BM_ifMoved (xfind [(72, ([0], wM_ifMoved_72 (qM_ifMoved_72))), (74, ([0, 6], wM_ifMoved_74 (qM_ifMoved_74)))]) 45 0 (List.zip [0, 1, 2, 3, 4, 5] [.ref a0, .int x1, .int x2, .int x3, .int x4, .int x5]) [] h := rfl
theorem tM_ifMoved : XTo cX9_ifMoved 7 RX9 1 7 164 0 [0, 1, 2, 3, 4, 5] (wM_ifMoved (qM_ifMoved)) := by
  refine XTo.run (B := BM_ifMoved) (cut := xfind [(72, ([0], wM_ifMoved_72 (qM_ifMoved_72))), (74, ([0, 6], wM_ifMoved_74 (qM_ifMoved_74)))]) kM_ifMoved (xcuts_ok (List.forall_mem_cons.mpr ⟨tM_ifMoved_72, List.forall_mem_cons.mpr ⟨tM_ifMoved_74, fun _ h => absurd h List.not_mem_nil⟩⟩)) 45 (fun vs st h r hr => ?_)
  unfold wM_ifMoved at hr
  split at hr
  · exact (eM_ifMoved _ _ _ _ _ _ _).symm.trans hr
  · cases hr
def FM_ifMoved : List Value → XH → XR := fun vs h => match vs with
  | [.ref a0, .int x1, .int x2, .int x3, .int x4, .int x5] => qM_ifMoved a0 x1 x2 x3 x4 x5 h
  | _ => none
theorem SM_ifMoved : XS yX9_ifMoved cX9_ifMoved 7 (some .int) (xrm 7 164) FM_ifMoved := by
  refine XS.of (own := RX9) (by decide) rfl (rk := 1) rfl (tM_ifMoved) (fun vs h r hr => ?_)
  unfold FM_ifMoved at hr
  split at hr
  · exact ⟨rfl, Nat.le_of_ble_eq_true rfl, hr⟩
  · cases hr
-- LineDiagram.bestMove(II)I
def rD_bestMove : List (Nat × XRow) := [(0, (.aload_n 0, 1, 0, .null, [])),
  (1, (.iload_n 1, 2, 1, .null, [])),
  (2, (.iload_n 2, 3, 2, .null, [])),
  (3, (.invokevirtual 136, 6, 136, .null, [])),
  (6, (.ifCond .ne 5, 9, 11, .null, [])),
  (9, (.iconst (-1), 10, 0, .int (-1 : Int32), [])),
  (10, (.ireturn, 11, 0, .null, [])),
  (11, (.aload_n 0, 12, 0, .null, [])),
  (12, (.getfield 29, 15, 29, .null, [])),
  (15, (.getfield 123, 18, 123, .null, [])),
  (18, (.iload_n 1, 19, 1, .null, [])),
  (19, (.aaload, 20, 0, .null, [])),
  (20, (.getfield 257, 23, 257, .null, [])),
  (23, (.iload_n 2, 24, 2, .null, [])),
  (24, (.iaload, 25, 0, .null, [])),
  (25, (.istore_n 3, 26, 3, .null, [])),
  (26, (.aload_n 0, 27, 0, .null, [])),
  (27, (.getfield 29, 30, 29, .null, [])),
  (30, (.getfield 123, 33, 123, .null, [])),
  (33, (.iload_n 1, 34, 1, .null, [])),
  (34, (.aaload, 35, 0, .null, [])),
  (35, (.getfield 260, 38, 260, .null, [])),
  (38, (.iload_n 2, 39, 2, .null, [])),
  (39, (.iaload, 40, 0, .null, [])),
  (40, (.istore 4, 42, 4, .null, [])),
  (42, (.bipush (-2), 44, 0, .int (-2 : Int32), [])),
  (44, (.istore 5, 46, 5, .null, [])),
  (46, (.iconst 0, 47, 0, .int (0 : Int32), [])),
  (47, (.istore 6, 49, 6, .null, [])),
  (49, (.aload_n 0, 50, 0, .null, [])),
  (50, (.getfield 33, 53, 33, .null, [])),
  (53, (.aload_n 0, 54, 0, .null, [])),
  (54, (.getfield 29, 57, 29, .null, [])),
  (57, (.invokevirtual 94, 60, 94, .null, [])),
  (60, (.iconst 0, 61, 0, .int (0 : Int32), [])),
  (61, (.istore 7, 63, 7, .null, [])),
  (63, (.iload 7, 65, 7, .null, [])),
  (65, (.bipush 8, 67, 0, .int (8 : Int32), [])),
  (67, (.if_icmp .ge 92, 70, 159, .null, [])),
  (70, (.aload_n 0, 71, 0, .null, [])),
  (71, (.iload_n 1, 72, 1, .null, [])),
  (72, (.iload_n 2, 73, 2, .null, [])),
  (73, (.iload_n 3, 74, 3, .null, [])),
  (74, (.getstatic 323, 77, 323, .null, [])),
  (77, (.iload 7, 79, 7, .null, [])),
  (79, (.iaload, 80, 0, .null, [])),
  (80, (.iadd, 81, 0, .null, [])),
  (81, (.iload 4, 83, 4, .null, [])),
  (83, (.getstatic 326, 86, 326, .null, [])),
  (86, (.iload 7, 88, 7, .null, [])),
  (88, (.iaload, 89, 0, .null, [])),
  (89, (.iadd, 90, 0, .null, [])),
  (90, (.invokevirtual 107, 93, 107, .null, [])),
  (93, (.ifCond .ne 60, 96, 153, .null, [])),
  (96, (.aload_n 0, 97, 0, .null, [])),
  (97, (.iload_n 1, 98, 1, .null, [])),
  (98, (.invokevirtual 320, 101, 320, .null, [])),
  (101, (.aload_n 0, 102, 0, .null, [])),
  (102, (.getfield 54, 105, 54, .null, [])),
  (105, (.sipush 255, 108, 0, .int (255 : Int32), [])),
  (108, (.invokevirtual 230, 111, 230, .null, [])),
  (111, (.iadd, 112, 0, .null, [])),
  (112, (.aload_n 0, 113, 0, .null, [])),
  (113, (.getfield 54, 116, 54, .null, [])),
  (116, (.sipush 255, 119, 0, .int (255 : Int32), [])),
  (119, (.invokevirtual 233, 122, 233, .null, [])),
  (122, (.iadd, 123, 0, .null, [])),
  (123, (.istore 8, 125, 8, .null, [])),
  (125, (.aload_n 0, 126, 0, .null, [])),
  (126, (.aload_n 0, 127, 0, .null, [])),
  (127, (.getfield 33, 130, 33, .null, [])),
  (130, (.invokevirtual 202, 133, 202, .null, [])),
  (133, (.iload 5, 135, 5, .null, [])),
  (135, (.ifCond .lt 10, 138, 145, .null, [])),
  (138, (.iload 8, 140, 8, .null, [])),
  (140, (.iload 6, 142, 6, .null, [])),
  (142, (.if_icmp .ge 11, 145, 153, .null, [])),
  (145, (.iload 8, 147, 8, .null, [])),
  (147, (.istore 6, 149, 6, .null, [])),
  (149, (.iload 7, 151, 7, .null, [])),
  (151, (.istore 5, 153, 5, .null, [])),
  (153, (.iinc 7 1, 156, 7, .int (1 : Int32), [])),
  (156, (.goto (-93), 159, 63, .null, [])),
  (159, (.iload 5, 161, 5, .null, [])),
  (161, (.ireturn, 162, 0, .null, []))]
def mD_bestMove : List (Nat × XM) := [(94, (2, 0, some 5, FP_copyFrom)), (107, (5, 1, some 8, FD_tryMove)), (136, (3, 1, some 8, FD_isPoint)), (202, (2, 0, some 8, FD_show)), (230, (2, 1, some 0, FB_countCrossings)), (233, (2, 1, some 0, FB_countBetween)), (320, (2, 1, some 8, FD_putTrial))]
abbrev BD_bestMove : XB := (rD_bestMove, XFT_D, mD_bestMove, 1, XST_D)
set_option maxRecDepth 100000 in
theorem kD_bestMove : XOK BD_bestMove cX8_bestMove 9 RX8 6 133 := xok_of (cps := []) (K := XKT_D) (by decide +kernel) XKT_D_ok (fun _ h => absurd h List.not_mem_nil) XFT_D_ok (List.forall_mem_cons.mpr ⟨⟨_, _, _, _, _, _, _, SP_copyFrom, rfl, rfl, Nat.le_of_ble_eq_true rfl, Nat.le_of_ble_eq_true rfl, cdP_copyFrom, lkD_94, imP_copyFrom, slP_copyFrom, inP_copyFrom, pmP_copyFrom⟩, List.forall_mem_cons.mpr ⟨⟨_, _, _, _, _, _, _, SD_tryMove, rfl, rfl, Nat.le_of_ble_eq_true rfl, Nat.le_of_ble_eq_true rfl, cdD_tryMove, lkD_107, imD_tryMove, slD_tryMove, inD_tryMove, pmD_tryMove⟩, List.forall_mem_cons.mpr ⟨⟨_, _, _, _, _, _, _, SD_isPoint, rfl, rfl, Nat.le_of_ble_eq_true rfl, Nat.le_of_ble_eq_true rfl, cdD_isPoint, lkD_136, imD_isPoint, slD_isPoint, inD_isPoint, pmD_isPoint⟩, List.forall_mem_cons.mpr ⟨⟨_, _, _, _, _, _, _, SD_show, rfl, rfl, Nat.le_of_ble_eq_true rfl, Nat.le_of_ble_eq_true rfl, cdD_show, lkD_202, imD_show, slD_show, inD_show, pmD_show⟩, List.forall_mem_cons.mpr ⟨⟨_, _, _, _, _, _, _, SB_countCrossings, rfl, rfl, Nat.le_of_ble_eq_true rfl, Nat.le_of_ble_eq_true rfl, cdB_countCrossings, lkD_230, imB_countCrossings, slB_countCrossings, inB_countCrossings, pmB_countCrossings⟩, List.forall_mem_cons.mpr ⟨⟨_, _, _, _, _, _, _, SB_countBetween, rfl, rfl, Nat.le_of_ble_eq_true rfl, Nat.le_of_ble_eq_true rfl, cdB_countBetween, lkD_233, imB_countBetween, slB_countBetween, inB_countBetween, pmB_countBetween⟩, List.forall_mem_cons.mpr ⟨⟨_, _, _, _, _, _, _, SD_putTrial, rfl, rfl, Nat.le_of_ble_eq_true rfl, Nat.le_of_ble_eq_true rfl, cdD_putTrial, lkD_320, imD_putTrial, slD_putTrial, inD_putTrial, pmD_putTrial⟩, fun _ h => absurd h List.not_mem_nil⟩⟩⟩⟩⟩⟩⟩) XST_D_ok
def wD_bestMove_145 (f : Nat → Int32 → Int32 → Int32 → Int32 → Int32 → Int32 → XH → XR) : List Value → List Value → XH → XR := fun vs st h => match vs, st with
  | [.ref a0, .int x1, .int x2, .int x3, .int x4, .int x7, .int x8], [] => f a0 x1 x2 x3 x4 x7 x8 h
  | _, _ => none
def wD_bestMove_63 (f : Nat → Int32 → Int32 → Int32 → Int32 → Int32 → Int32 → Int32 → XH → XR) : List Value → List Value → XH → XR := fun vs st h => match vs, st with
  | [.ref a0, .int x1, .int x2, .int x3, .int x4, .int x5, .int x6, .int x7], [] => f a0 x1 x2 x3 x4 x5 x6 x7 h
  | _, _ => none
def wD_bestMove (f : Nat → Int32 → Int32 → XH → XR) : List Value → List Value → XH → XR := fun vs st h => match vs, st with
  | [.ref a0, .int x1, .int x2], [] => f a0 x1 x2 h
  | _, _ => none
set_option maxRecDepth 100000 in
theorem eD_bestMove_145 (k63 : Nat → Int32 → Int32 → Int32 → Int32 → Int32 → Int32 → Int32 → XH → XR) (a0 : Nat) (x1 : Int32) (x2 : Int32) (x3 : Int32) (x4 : Int32) (x7 : Int32) (x8 : Int32) (h : XH) : qD_bestMove_145 k63 a0 x1 x2 x3 x4 x7 x8 h = xrun BD_bestMove (xfind [(63, ([0, 1, 2, 3, 4, 5, 6, 7], wD_bestMove_63 (k63)))]) 88 145 (List.zip [0, 1, 2, 3, 4, 7, 8] [.ref a0, .int x1, .int x2, .int x3, .int x4, .int x7, .int x8]) [] h := rfl
theorem tD_bestMove_145 {k63 : Nat → Int32 → Int32 → Int32 → Int32 → Int32 → Int32 → Int32 → XH → XR} (hk63 : XTo cX8_bestMove 9 RX8 1 6 133 63 [0, 1, 2, 3, 4, 5, 6, 7] (wD_bestMove_63 k63)) : XTo cX8_bestMove 9 RX8 1 6 133 145 [0, 1, 2, 3, 4, 7, 8] (wD_bestMove_145 (qD_bestMove_145 k63)) := by
  refine XTo.run (B := BD_bestMove) (cut := xfind [(63, ([0, 1, 2, 3, 4, 5, 6, 7], wD_bestMove_63 (k63)))]) kD_bestMove (xcuts_ok (List.forall_mem_cons.mpr ⟨hk63, fun _ h => absurd h List.not_mem_nil⟩)) 88 (fun vs st h r hr => ?_)
  unfold wD_bestMove_145 at hr
  split at hr
  · exact (eD_bestMove_145 k63 _ _ _ _ _ _ _ _).symm.trans hr
  · cases hr
set_option maxRecDepth 100000 in
theorem eD_bestMove_63_b (k63 : Nat → Int32 → Int32 → Int32 → Int32 → Int32 → Int32 → Int32 → XH → XR) (a0 : Nat) (x1 : Int32) (x2 : Int32) (x3 : Int32) (x4 : Int32) (x5 : Int32) (x6 : Int32) (x7 : Int32) (h : XH) : qD_bestMove_63_b k63 a0 x1 x2 x3 x4 x5 x6 x7 h = xrun BD_bestMove (xfind [(63, ([0, 1, 2, 3, 4, 5, 6, 7], wD_bestMove_63 (k63))), (145, ([0, 1, 2, 3, 4, 7, 8], wD_bestMove_145 (qD_bestMove_145 k63)))]) 88 63 (List.zip [0, 1, 2, 3, 4, 5, 6, 7] [.ref a0, .int x1, .int x2, .int x3, .int x4, .int x5, .int x6, .int x7]) [] h := rfl
theorem tD_bestMove_63_b {k63 : Nat → Int32 → Int32 → Int32 → Int32 → Int32 → Int32 → Int32 → XH → XR} (hk63 : XTo cX8_bestMove 9 RX8 1 6 133 63 [0, 1, 2, 3, 4, 5, 6, 7] (wD_bestMove_63 k63)) : XTo cX8_bestMove 9 RX8 1 6 133 63 [0, 1, 2, 3, 4, 5, 6, 7] (wD_bestMove_63 (qD_bestMove_63_b k63)) := by
  refine XTo.run (B := BD_bestMove) (cut := xfind [(63, ([0, 1, 2, 3, 4, 5, 6, 7], wD_bestMove_63 (k63))), (145, ([0, 1, 2, 3, 4, 7, 8], wD_bestMove_145 (qD_bestMove_145 k63)))]) kD_bestMove (xcuts_ok (List.forall_mem_cons.mpr ⟨hk63, List.forall_mem_cons.mpr ⟨tD_bestMove_145 hk63, fun _ h => absurd h List.not_mem_nil⟩⟩)) 88 (fun vs st h r hr => ?_)
  unfold wD_bestMove_63 at hr
  split at hr
  · exact (eD_bestMove_63_b k63 _ _ _ _ _ _ _ _ _).symm.trans hr
  · cases hr
theorem tD_bestMove_63 : ∀ n : Nat, XTo cX8_bestMove 9 RX8 1 6 133 63 [0, 1, 2, 3, 4, 5, 6, 7] (wD_bestMove_63 (qD_bestMove_63 n)) := by
  intro n
  induction n with
  | zero =>
    refine XTo.none fun vs st h => ?_
    unfold wD_bestMove_63
    split <;> rfl
  | succ n ih => exact tD_bestMove_63_b  ih
set_option maxRecDepth 100000 in
theorem eD_bestMove (a0 : Nat) (x1 : Int32) (x2 : Int32) (h : XH) : qD_bestMove a0 x1 x2 h = xrun BD_bestMove (xfind [(63, ([0, 1, 2, 3, 4, 5, 6, 7], wD_bestMove_63 (qD_bestMove_63 LF)))]) 88 0 (List.zip [0, 1, 2] [.ref a0, .int x1, .int x2]) [] h := rfl
theorem tD_bestMove : XTo cX8_bestMove 9 RX8 1 6 133 0 [0, 1, 2] (wD_bestMove (qD_bestMove)) := by
  refine XTo.run (B := BD_bestMove) (cut := xfind [(63, ([0, 1, 2, 3, 4, 5, 6, 7], wD_bestMove_63 (qD_bestMove_63 LF)))]) kD_bestMove (xcuts_ok (List.forall_mem_cons.mpr ⟨tD_bestMove_63 LF, fun _ h => absurd h List.not_mem_nil⟩)) 88 (fun vs st h r hr => ?_)
  unfold wD_bestMove at hr
  split at hr
  · exact (eD_bestMove _ _ _ _).symm.trans hr
  · cases hr
def FD_bestMove : List Value → XH → XR := fun vs h => match vs with
  | [.ref a0, .int x1, .int x2] => qD_bestMove a0 x1 x2 h
  | _ => none
theorem SD_bestMove : XS yX8_bestMove cX8_bestMove 9 (some .int) (xrm 6 133) FD_bestMove := by
  refine XS.of (own := RX8) (by decide) rfl (rk := 1) rfl (tD_bestMove) (fun vs h r hr => ?_)
  unfold FD_bestMove at hr
  split at hr
  · exact ⟨rfl, Nat.le_of_ble_eq_true rfl, hr⟩
  · cases hr
-- LineDiagramModel.bestMove(II)I
def rM_bestMove : List (Nat × XRow) := [(0, (.aload_n 0, 1, 0, .null, [])),
  (1, (.iload_n 1, 2, 1, .null, [])),
  (2, (.iload_n 2, 3, 2, .null, [])),
  (3, (.invokevirtual 343, 6, 343, .null, [])),
  (6, (.ifCond .ne 5, 9, 11, .null, [])),
  (9, (.iconst (-1), 10, 0, .int (-1 : Int32), [])),
  (10, (.ireturn, 11, 0, .null, [])),
  (11, (.bipush (-2), 13, 0, .int (-2 : Int32), [])),
  (13, (.istore_n 3, 14, 3, .null, [])),
  (14, (.ldc_w 442, 17, 442, .int (1000000 : Int32), [])),
  (17, (.istore 4, 19, 4, .null, [])),
  (19, (.aload_n 0, 20, 0, .null, [])),
  (20, (.invokevirtual 352, 23, 352, .null, [])),
  (23, (.iconst 0, 24, 0, .int (0 : Int32), [])),
  (24, (.istore 5, 26, 5, .null, [])),
  (26, (.iload 5, 28, 5, .null, [])),
  (28, (.bipush 8, 30, 0, .int (8 : Int32), [])),
  (30, (.if_icmp .ge 98, 33, 128, .null, [])),
  (33, (.aload_n 0, 34, 0, .null, [])),
  (34, (.iload_n 1, 35, 1, .null, [])),
  (35, (.iload_n 2, 36, 2, .null, [])),
  (36, (.aload_n 0, 37, 0, .null, [])),
  (37, (.iload_n 1, 38, 1, .null, [])),
  (38, (.iload_n 2, 39, 2, .null, [])),
  (39, (.invokevirtual 120, 42, 120, .null, [])),
  (42, (.iload 5, 44, 5, .null, [])),
  (44, (.invokestatic 111, 47, 111, .null, [])),
  (47, (.iadd, 48, 0, .null, [])),
  (48, (.aload_n 0, 49, 0, .null, [])),
  (49, (.iload_n 1, 50, 1, .null, [])),
  (50, (.iload_n 2, 51, 2, .null, [])),
  (51, (.invokevirtual 123, 54, 123, .null, [])),
  (54, (.iload 5, 56, 5, .null, [])),
  (56, (.invokestatic 117, 59, 117, .null, [])),
  (59, (.iadd, 60, 0, .null, [])),
  (60, (.invokevirtual 465, 63, 465, .null, [])),
  (63, (.istore 6, 65, 6, .null, [])),
  (65, (.iload 6, 67, 6, .null, [])),
  (67, (.iload 6, 69, 6, .null, [])),
  (69, (.ifCond .ge 9, 72, 78, .null, [])),
  (72, (.ldc_w 442, 75, 442, .int (1000000 : Int32), [])),
  (75, (.goto 13, 78, 88, .null, [])),
  (78, (.aload_n 0, 79, 0, .null, [])),
  (79, (.invokevirtual 423, 82, 423, .null, [])),
  (82, (.aload_n 0, 83, 0, .null, [])),
  (83, (.iconst 1, 84, 0, .int (1 : Int32), [])),
  (84, (.invokevirtual 426, 87, 426, .null, [])),
  (87, (.iadd, 88, 0, .null, [])),
  (88, (.iadd, 89, 0, .null, [])),
  (89, (.istore 6, 91, 6, .null, [])),
  (91, (.iload 6, 93, 6, .null, [])),
  (93, (.iload 4, 95, 4, .null, [])),
  (95, (.if_icmp .ge 23, 98, 118, .null, [])),
  (98, (.iload 6, 100, 6, .null, [])),
  (100, (.ifCond .lt 18, 103, 118, .null, [])),
  (103, (.iload 6, 105, 6, .null, [])),
  (105, (.ldc_w 468, 108, 468, .int (999991 : Int32), [])),
  (108, (.if_icmp .ge 10, 111, 118, .null, [])),
  (111, (.iload 5, 113, 5, .null, [])),
  (113, (.istore_n 3, 114, 3, .null, [])),
  (114, (.iload 6, 116, 6, .null, [])),
  (116, (.istore 4, 118, 4, .null, [])),
  (118, (.aload_n 0, 119, 0, .null, [])),
  (119, (.invokevirtual 330, 122, 330, .null, [])),
  (122, (.iinc 5 1, 125, 5, .int (1 : Int32), [])),
  (125, (.goto (-99), 128, 26, .null, [])),
  (128, (.iload_n 3, 129, 3, .null, [])),
  (129, (.ireturn, 130, 0, .null, []))]
def mM_bestMove : List (Nat × XM) := [(111, (1, 1, none, FM_dx)), (117, (1, 1, none, FM_dy)), (120, (3, 1, some 9, FM_px)), (123, (3, 1, some 9, FM_py)), (330, (1, 0, some 9, FM_comesBack)), (343, (3, 1, some 9, FM_isPoint)), (352, (1, 0, some 9, FM_thinks)), (423, (1, 1, some 9, FM_allCrossings)), (426, (2, 1, some 9, FM_allOf)), (465, (5, 1, some 9, FM_moves))]
abbrev BM_bestMove : XB := (rM_bestMove, XFT_M, mM_bestMove, 1, XST_M)
set_option maxRecDepth 100000 in
theorem kM_bestMove : XOK BM_bestMove cX9_bestMove 7 RX9 7 164 := xok_of (cps := []) (K := XKT_M) (by decide +kernel) XKT_M_ok (fun _ h => absurd h List.not_mem_nil) XFT_M_ok (List.forall_mem_cons.mpr ⟨⟨_, _, _, _, _, _, SM_dx, Nat.le_of_ble_eq_true rfl, Nat.le_of_ble_eq_true rfl, cdM_dx, lkM_111, imM_dx, inM_dx, pmM_dx⟩, List.forall_mem_cons.mpr ⟨⟨_, _, _, _, _, _, SM_dy, Nat.le_of_ble_eq_true rfl, Nat.le_of_ble_eq_true rfl, cdM_dy, lkM_117, imM_dy, inM_dy, pmM_dy⟩, List.forall_mem_cons.mpr ⟨⟨_, _, _, _, _, _, _, SM_px, rfl, rfl, Nat.le_of_ble_eq_true rfl, Nat.le_of_ble_eq_true rfl, cdM_px, lkM_120, imM_px, slM_px, inM_px, pmM_px⟩, List.forall_mem_cons.mpr ⟨⟨_, _, _, _, _, _, _, SM_py, rfl, rfl, Nat.le_of_ble_eq_true rfl, Nat.le_of_ble_eq_true rfl, cdM_py, lkM_123, imM_py, slM_py, inM_py, pmM_py⟩, List.forall_mem_cons.mpr ⟨⟨_, _, _, _, _, _, _, SM_comesBack, rfl, rfl, Nat.le_of_ble_eq_true rfl, Nat.le_of_ble_eq_true rfl, cdM_comesBack, lkM_330, imM_comesBack, slM_comesBack, inM_comesBack, pmM_comesBack⟩, List.forall_mem_cons.mpr ⟨⟨_, _, _, _, _, _, _, SM_isPoint, rfl, rfl, Nat.le_of_ble_eq_true rfl, Nat.le_of_ble_eq_true rfl, cdM_isPoint, lkM_343, imM_isPoint, slM_isPoint, inM_isPoint, pmM_isPoint⟩, List.forall_mem_cons.mpr ⟨⟨_, _, _, _, _, _, _, SM_thinks, rfl, rfl, Nat.le_of_ble_eq_true rfl, Nat.le_of_ble_eq_true rfl, cdM_thinks, lkM_352, imM_thinks, slM_thinks, inM_thinks, pmM_thinks⟩, List.forall_mem_cons.mpr ⟨⟨_, _, _, _, _, _, _, SM_allCrossings, rfl, rfl, Nat.le_of_ble_eq_true rfl, Nat.le_of_ble_eq_true rfl, cdM_allCrossings, lkM_423, imM_allCrossings, slM_allCrossings, inM_allCrossings, pmM_allCrossings⟩, List.forall_mem_cons.mpr ⟨⟨_, _, _, _, _, _, _, SM_allOf, rfl, rfl, Nat.le_of_ble_eq_true rfl, Nat.le_of_ble_eq_true rfl, cdM_allOf, lkM_426, imM_allOf, slM_allOf, inM_allOf, pmM_allOf⟩, List.forall_mem_cons.mpr ⟨⟨_, _, _, _, _, _, _, SM_moves, rfl, rfl, Nat.le_of_ble_eq_true rfl, Nat.le_of_ble_eq_true rfl, cdM_moves, lkM_465, imM_moves, slM_moves, inM_moves, pmM_moves⟩, fun _ h => absurd h List.not_mem_nil⟩⟩⟩⟩⟩⟩⟩⟩⟩⟩) XST_M_ok
def wM_bestMove_118 (f : Nat → Int32 → Int32 → Int32 → Int32 → Int32 → XH → XR) : List Value → List Value → XH → XR := fun vs st h => match vs, st with
  | [.ref a0, .int x1, .int x2, .int x3, .int x4, .int x5], [] => f a0 x1 x2 x3 x4 x5 h
  | _, _ => none
def wM_bestMove_88 (f : Nat → Int32 → Int32 → Int32 → Int32 → Int32 → Int32 → Int32 → XH → XR) : List Value → List Value → XH → XR := fun vs st h => match vs, st with
  | [.ref a0, .int x1, .int x2, .int x3, .int x4, .int x5], [.int s0, .int s1] => f a0 x1 x2 x3 x4 x5 s0 s1 h
  | _, _ => none
def wM_bestMove_26 (f : Nat → Int32 → Int32 → Int32 → Int32 → Int32 → XH → XR) : List Value → List Value → XH → XR := fun vs st h => match vs, st with
  | [.ref a0, .int x1, .int x2, .int x3, .int x4, .int x5], [] => f a0 x1 x2 x3 x4 x5 h
  | _, _ => none
def wM_bestMove (f : Nat → Int32 → Int32 → XH → XR) : List Value → List Value → XH → XR := fun vs st h => match vs, st with
  | [.ref a0, .int x1, .int x2], [] => f a0 x1 x2 h
  | _, _ => none
set_option maxRecDepth 100000 in
theorem eM_bestMove_118 (k26 : Nat → Int32 → Int32 → Int32 → Int32 → Int32 → XH → XR) (a0 : Nat) (x1 : Int32) (x2 : Int32) (x3 : Int32) (x4 : Int32) (x5 : Int32) (h : XH) : qM_bestMove_118 k26 a0 x1 x2 x3 x4 x5 h = xrun BM_bestMove (xfind [(26, ([0, 1, 2, 3, 4, 5], wM_bestMove_26 (k26)))]) 71 118 (List.zip [0, 1, 2, 3, 4, 5] [.ref a0, .int x1, .int x2, .int x3, .int x4, .int x5]) [] h := rfl
theorem tM_bestMove_118 {k26 : Nat → Int32 → Int32 → Int32 → Int32 → Int32 → XH → XR} (hk26 : XTo cX9_bestMove 7 RX9 1 7 164 26 [0, 1, 2, 3, 4, 5] (wM_bestMove_26 k26)) : XTo cX9_bestMove 7 RX9 1 7 164 118 [0, 1, 2, 3, 4, 5] (wM_bestMove_118 (qM_bestMove_118 k26)) := by
  refine XTo.run (B := BM_bestMove) (cut := xfind [(26, ([0, 1, 2, 3, 4, 5], wM_bestMove_26 (k26)))]) kM_bestMove (xcuts_ok (List.forall_mem_cons.mpr ⟨hk26, fun _ h => absurd h List.not_mem_nil⟩)) 71 (fun vs st h r hr => ?_)
  unfold wM_bestMove_118 at hr
  split at hr
  · exact (eM_bestMove_118 k26 _ _ _ _ _ _ _).symm.trans hr
  · cases hr
set_option maxRecDepth 100000 in
theorem eM_bestMove_88 (k26 : Nat → Int32 → Int32 → Int32 → Int32 → Int32 → XH → XR) (a0 : Nat) (x1 : Int32) (x2 : Int32) (x3 : Int32) (x4 : Int32) (x5 : Int32) (s0 : Int32) (s1 : Int32) (h : XH) : qM_bestMove_88 k26 a0 x1 x2 x3 x4 x5 s0 s1 h = xrun BM_bestMove (xfind [(118, ([0, 1, 2, 3, 4, 5], wM_bestMove_118 (qM_bestMove_118 k26)))]) 71 88 (List.zip [0, 1, 2, 3, 4, 5] [.ref a0, .int x1, .int x2, .int x3, .int x4, .int x5]) [.int s0, .int s1] h := rfl
theorem tM_bestMove_88 {k26 : Nat → Int32 → Int32 → Int32 → Int32 → Int32 → XH → XR} (hk26 : XTo cX9_bestMove 7 RX9 1 7 164 26 [0, 1, 2, 3, 4, 5] (wM_bestMove_26 k26)) : XTo cX9_bestMove 7 RX9 1 7 164 88 [0, 1, 2, 3, 4, 5] (wM_bestMove_88 (qM_bestMove_88 k26)) := by
  refine XTo.run (B := BM_bestMove) (cut := xfind [(118, ([0, 1, 2, 3, 4, 5], wM_bestMove_118 (qM_bestMove_118 k26)))]) kM_bestMove (xcuts_ok (List.forall_mem_cons.mpr ⟨tM_bestMove_118 hk26, fun _ h => absurd h List.not_mem_nil⟩)) 71 (fun vs st h r hr => ?_)
  unfold wM_bestMove_88 at hr
  split at hr
  · exact (eM_bestMove_88 k26 _ _ _ _ _ _ _ _ _).symm.trans hr
  · cases hr
set_option maxRecDepth 100000 in
theorem eM_bestMove_26_b (k26 : Nat → Int32 → Int32 → Int32 → Int32 → Int32 → XH → XR) (a0 : Nat) (x1 : Int32) (x2 : Int32) (x3 : Int32) (x4 : Int32) (x5 : Int32) (h : XH) : qM_bestMove_26_b k26 a0 x1 x2 x3 x4 x5 h = xrun BM_bestMove (xfind [(88, ([0, 1, 2, 3, 4, 5], wM_bestMove_88 (qM_bestMove_88 k26)))]) 71 26 (List.zip [0, 1, 2, 3, 4, 5] [.ref a0, .int x1, .int x2, .int x3, .int x4, .int x5]) [] h := rfl
theorem tM_bestMove_26_b {k26 : Nat → Int32 → Int32 → Int32 → Int32 → Int32 → XH → XR} (hk26 : XTo cX9_bestMove 7 RX9 1 7 164 26 [0, 1, 2, 3, 4, 5] (wM_bestMove_26 k26)) : XTo cX9_bestMove 7 RX9 1 7 164 26 [0, 1, 2, 3, 4, 5] (wM_bestMove_26 (qM_bestMove_26_b k26)) := by
  refine XTo.run (B := BM_bestMove) (cut := xfind [(88, ([0, 1, 2, 3, 4, 5], wM_bestMove_88 (qM_bestMove_88 k26)))]) kM_bestMove (xcuts_ok (List.forall_mem_cons.mpr ⟨tM_bestMove_88 hk26, fun _ h => absurd h List.not_mem_nil⟩)) 71 (fun vs st h r hr => ?_)
  unfold wM_bestMove_26 at hr
  split at hr
  · exact (eM_bestMove_26_b k26 _ _ _ _ _ _ _).symm.trans hr
  · cases hr
theorem tM_bestMove_26 : ∀ n : Nat, XTo cX9_bestMove 7 RX9 1 7 164 26 [0, 1, 2, 3, 4, 5] (wM_bestMove_26 (qM_bestMove_26 n)) := by
  intro n
  induction n with
  | zero =>
    refine XTo.none fun vs st h => ?_
    unfold wM_bestMove_26
    split <;> rfl
  | succ n ih => exact tM_bestMove_26_b  ih
set_option maxRecDepth 100000 in
theorem eM_bestMove (a0 : Nat) (x1 : Int32) (x2 : Int32) (h : XH) : qM_bestMove a0 x1 x2 h = xrun BM_bestMove (xfind [(26, ([0, 1, 2, 3, 4, 5], wM_bestMove_26 (qM_bestMove_26 LF)))]) 71 0 (List.zip [0, 1, 2] [.ref a0, .int x1, .int x2]) [] h := rfl
theorem tM_bestMove : XTo cX9_bestMove 7 RX9 1 7 164 0 [0, 1, 2] (wM_bestMove (qM_bestMove)) := by
  refine XTo.run (B := BM_bestMove) (cut := xfind [(26, ([0, 1, 2, 3, 4, 5], wM_bestMove_26 (qM_bestMove_26 LF)))]) kM_bestMove (xcuts_ok (List.forall_mem_cons.mpr ⟨tM_bestMove_26 LF, fun _ h => absurd h List.not_mem_nil⟩)) 71 (fun vs st h r hr => ?_)
  unfold wM_bestMove at hr
  split at hr
  · exact (eM_bestMove _ _ _ _).symm.trans hr
  · cases hr
def FM_bestMove : List Value → XH → XR := fun vs h => match vs with
  | [.ref a0, .int x1, .int x2] => qM_bestMove a0 x1 x2 h
  | _ => none
theorem SM_bestMove : XS yX9_bestMove cX9_bestMove 7 (some .int) (xrm 7 164) FM_bestMove := by
  refine XS.of (own := RX9) (by decide) rfl (rk := 1) rfl (tM_bestMove) (fun vs h r hr => ?_)
  unfold FM_bestMove at hr
  split at hr
  · exact ⟨rfl, Nat.le_of_ble_eq_true rfl, hr⟩
  · cases hr
-- LineDiagram.couldLabel()I
def rD_couldLabel : List (Nat × XRow) := [(0, (.aload_n 0, 1, 0, .null, [])),
  (1, (.getfield 33, 4, 33, .null, [])),
  (4, (.aload_n 0, 5, 0, .null, [])),
  (5, (.getfield 29, 8, 29, .null, [])),
  (8, (.invokevirtual 94, 11, 94, .null, [])),
  (11, (.aload_n 0, 12, 0, .null, [])),
  (12, (.invokevirtual 192, 15, 192, .null, [])),
  (15, (.istore_n 1, 16, 1, .null, [])),
  (16, (.aload_n 0, 17, 0, .null, [])),
  (17, (.aload_n 0, 18, 0, .null, [])),
  (18, (.getfield 33, 21, 33, .null, [])),
  (21, (.invokevirtual 202, 24, 202, .null, [])),
  (24, (.iload_n 1, 25, 1, .null, [])),
  (25, (.ireturn, 26, 0, .null, []))]
def mD_couldLabel : List (Nat × XM) := [(94, (2, 0, some 5, FP_copyFrom)), (192, (1, 1, some 8, FD_labelPlaces)), (202, (2, 0, some 8, FD_show))]
abbrev BD_couldLabel : XB := (rD_couldLabel, XFT_D, mD_couldLabel, 1, XST_D)
set_option maxRecDepth 100000 in
theorem kD_couldLabel : XOK BD_couldLabel cX8_couldLabel 2 RX8 6 138 := xok_of (cps := []) (K := XKT_D) (by decide +kernel) XKT_D_ok (fun _ h => absurd h List.not_mem_nil) XFT_D_ok (List.forall_mem_cons.mpr ⟨⟨_, _, _, _, _, _, _, SP_copyFrom, rfl, rfl, Nat.le_of_ble_eq_true rfl, Nat.le_of_ble_eq_true rfl, cdP_copyFrom, lkD_94, imP_copyFrom, slP_copyFrom, inP_copyFrom, pmP_copyFrom⟩, List.forall_mem_cons.mpr ⟨⟨_, _, _, _, _, _, _, SD_labelPlaces, rfl, rfl, Nat.le_of_ble_eq_true rfl, Nat.le_of_ble_eq_true rfl, cdD_labelPlaces, lkD_192, imD_labelPlaces, slD_labelPlaces, inD_labelPlaces, pmD_labelPlaces⟩, List.forall_mem_cons.mpr ⟨⟨_, _, _, _, _, _, _, SD_show, rfl, rfl, Nat.le_of_ble_eq_true rfl, Nat.le_of_ble_eq_true rfl, cdD_show, lkD_202, imD_show, slD_show, inD_show, pmD_show⟩, fun _ h => absurd h List.not_mem_nil⟩⟩⟩) XST_D_ok
def wD_couldLabel (f : Nat → XH → XR) : List Value → List Value → XH → XR := fun vs st h => match vs, st with
  | [.ref a0], [] => f a0 h
  | _, _ => none
set_option maxRecDepth 100000 in
theorem eD_couldLabel (a0 : Nat) (h : XH) : qD_couldLabel a0 h = xrun BD_couldLabel (xfind []) 17 0 (List.zip [0] [.ref a0]) [] h := rfl
theorem tD_couldLabel : XTo cX8_couldLabel 2 RX8 1 6 138 0 [0] (wD_couldLabel (qD_couldLabel)) := by
  refine XTo.run (B := BD_couldLabel) (cut := xfind []) kD_couldLabel (xcuts_ok (fun _ h => absurd h List.not_mem_nil)) 17 (fun vs st h r hr => ?_)
  unfold wD_couldLabel at hr
  split at hr
  · exact (eD_couldLabel _ _).symm.trans hr
  · cases hr
def FD_couldLabel : List Value → XH → XR := fun vs h => match vs with
  | [.ref a0] => qD_couldLabel a0 h
  | _ => none
theorem SD_couldLabel : XS yX8_couldLabel cX8_couldLabel 2 (some .int) (xrm 6 138) FD_couldLabel := by
  refine XS.of (own := RX8) (by decide) rfl (rk := 1) rfl (tD_couldLabel) (fun vs h r hr => ?_)
  unfold FD_couldLabel at hr
  split at hr
  · exact ⟨rfl, Nat.le_of_ble_eq_true rfl, hr⟩
  · cases hr
-- LineDiagramModel.couldLabel()I
def rM_couldLabel : List (Nat × XRow) := [(0, (.aload_n 0, 1, 0, .null, [])),
  (1, (.invokevirtual 352, 4, 352, .null, [])),
  (4, (.aload_n 0, 5, 0, .null, [])),
  (5, (.invokevirtual 380, 8, 380, .null, [])),
  (8, (.aload_n 0, 9, 0, .null, [])),
  (9, (.invokevirtual 389, 12, 389, .null, [])),
  (12, (.istore_n 1, 13, 1, .null, [])),
  (13, (.aload_n 0, 14, 0, .null, [])),
  (14, (.invokevirtual 330, 17, 330, .null, [])),
  (17, (.iload_n 1, 18, 1, .null, [])),
  (18, (.ireturn, 19, 0, .null, []))]
def mM_couldLabel : List (Nat × XM) := [(330, (1, 0, some 9, FM_comesBack)), (352, (1, 0, some 9, FM_thinks)), (380, (1, 0, some 9, FM_lays)), (389, (1, 1, some 9, FM_labels))]
abbrev BM_couldLabel : XB := (rM_couldLabel, XFT_M, mM_couldLabel, 1, XST_M)
set_option maxRecDepth 100000 in
theorem kM_couldLabel : XOK BM_couldLabel cX9_couldLabel 2 RX9 6 138 := xok_of (cps := []) (K := XKT_M) (by decide +kernel) XKT_M_ok (fun _ h => absurd h List.not_mem_nil) XFT_M_ok (List.forall_mem_cons.mpr ⟨⟨_, _, _, _, _, _, _, SM_comesBack, rfl, rfl, Nat.le_of_ble_eq_true rfl, Nat.le_of_ble_eq_true rfl, cdM_comesBack, lkM_330, imM_comesBack, slM_comesBack, inM_comesBack, pmM_comesBack⟩, List.forall_mem_cons.mpr ⟨⟨_, _, _, _, _, _, _, SM_thinks, rfl, rfl, Nat.le_of_ble_eq_true rfl, Nat.le_of_ble_eq_true rfl, cdM_thinks, lkM_352, imM_thinks, slM_thinks, inM_thinks, pmM_thinks⟩, List.forall_mem_cons.mpr ⟨⟨_, _, _, _, _, _, _, SM_lays, rfl, rfl, Nat.le_of_ble_eq_true rfl, Nat.le_of_ble_eq_true rfl, cdM_lays, lkM_380, imM_lays, slM_lays, inM_lays, pmM_lays⟩, List.forall_mem_cons.mpr ⟨⟨_, _, _, _, _, _, _, SM_labels, rfl, rfl, Nat.le_of_ble_eq_true rfl, Nat.le_of_ble_eq_true rfl, cdM_labels, lkM_389, imM_labels, slM_labels, inM_labels, pmM_labels⟩, fun _ h => absurd h List.not_mem_nil⟩⟩⟩⟩) XST_M_ok
def wM_couldLabel (f : Nat → XH → XR) : List Value → List Value → XH → XR := fun vs st h => match vs, st with
  | [.ref a0], [] => f a0 h
  | _, _ => none
set_option maxRecDepth 100000 in
theorem eM_couldLabel (a0 : Nat) (h : XH) : qM_couldLabel a0 h = xrun BM_couldLabel (xfind []) 14 0 (List.zip [0] [.ref a0]) [] h := rfl
theorem tM_couldLabel : XTo cX9_couldLabel 2 RX9 1 6 138 0 [0] (wM_couldLabel (qM_couldLabel)) := by
  refine XTo.run (B := BM_couldLabel) (cut := xfind []) kM_couldLabel (xcuts_ok (fun _ h => absurd h List.not_mem_nil)) 14 (fun vs st h r hr => ?_)
  unfold wM_couldLabel at hr
  split at hr
  · exact (eM_couldLabel _ _).symm.trans hr
  · cases hr
def FM_couldLabel : List Value → XH → XR := fun vs h => match vs with
  | [.ref a0] => qM_couldLabel a0 h
  | _ => none
theorem SM_couldLabel : XS yX9_couldLabel cX9_couldLabel 2 (some .int) (xrm 6 138) FM_couldLabel := by
  refine XS.of (own := RX9) (by decide) rfl (rk := 1) rfl (tM_couldLabel) (fun vs h r hr => ?_)
  unfold FM_couldLabel at hr
  split at hr
  · exact ⟨rfl, Nat.le_of_ble_eq_true rfl, hr⟩
  · cases hr
-- LineDiagram.meanGap(I)F
def rD_meanGap : List (Nat × XRow) := [(0, (.aload_n 0, 1, 0, .null, [])),
  (1, (.iload_n 1, 2, 1, .null, [])),
  (2, (.invokevirtual 115, 5, 115, .null, [])),
  (5, (.ifCond .ne 7, 8, 12, .null, [])),
  (8, (.ldc_w 329, 11, 329, .float (3212836864 : UInt32), [])),
  (11, (.freturn, 12, 0, .null, [])),
  (12, (.aload_n 0, 13, 0, .null, [])),
  (13, (.getfield 29, 16, 29, .null, [])),
  (16, (.getfield 123, 19, 123, .null, [])),
  (19, (.iload_n 1, 20, 1, .null, [])),
  (20, (.aaload, 21, 0, .null, [])),
  (21, (.getfield 145, 24, 145, .null, [])),
  (24, (.iconst 1, 25, 0, .int (1 : Int32), [])),
  (25, (.isub, 26, 0, .null, [])),
  (26, (.istore_n 2, 27, 2, .null, [])),
  (27, (.iload_n 2, 28, 2, .null, [])),
  (28, (.iconst 1, 29, 0, .int (1 : Int32), [])),
  (29, (.if_icmp .ge 9, 32, 38, .null, [])),
  (32, (.ldc_w 329, 35, 329, .float (3212836864 : UInt32), [])),
  (35, (.goto 19, 38, 54, .null, [])),
  (38, (.aload_n 0, 39, 0, .null, [])),
  (39, (.getfield 29, 42, 29, .null, [])),
  (42, (.getfield 123, 45, 123, .null, [])),
  (45, (.iload_n 1, 46, 1, .null, [])),
  (46, (.aaload, 47, 0, .null, [])),
  (47, (.invokevirtual 239, 50, 239, .null, [])),
  (50, (.i2f, 51, 0, .null, [])),
  (51, (.iload_n 2, 52, 2, .null, [])),
  (52, (.i2f, 53, 0, .null, [])),
  (53, (.fdiv, 54, 0, .null, [])),
  (54, (.freturn, 55, 0, .null, []))]
def mD_meanGap : List (Nat × XM) := [(115, (2, 1, some 8, FD_isLine)), (239, (1, 1, some 3, FLn_steps))]
abbrev BD_meanGap : XB := (rD_meanGap, XFT_D, mD_meanGap, 2, XST_D)
set_option maxRecDepth 100000 in
theorem kD_meanGap : XOK BD_meanGap cX8_meanGap 3 RX8 3 64 := xok_of (cps := []) (K := XKT_D) (by decide +kernel) XKT_D_ok (fun _ h => absurd h List.not_mem_nil) XFT_D_ok (List.forall_mem_cons.mpr ⟨⟨_, _, _, _, _, _, _, SD_isLine, rfl, rfl, Nat.le_of_ble_eq_true rfl, Nat.le_of_ble_eq_true rfl, cdD_isLine, lkD_115, imD_isLine, slD_isLine, inD_isLine, pmD_isLine⟩, List.forall_mem_cons.mpr ⟨⟨_, _, _, _, _, _, _, SLn_steps, rfl, rfl, Nat.le_of_ble_eq_true rfl, Nat.le_of_ble_eq_true rfl, cdLn_steps, lkD_239, imLn_steps, slLn_steps, inLn_steps, pmLn_steps⟩, fun _ h => absurd h List.not_mem_nil⟩⟩) XST_D_ok
def wD_meanGap (f : Nat → Int32 → XH → XR) : List Value → List Value → XH → XR := fun vs st h => match vs, st with
  | [.ref a0, .int x1], [] => f a0 x1 h
  | _, _ => none
set_option maxRecDepth 100000 in
theorem eD_meanGap (a0 : Nat) (x1 : Int32) (h : XH) : qD_meanGap a0 x1 h = xrun BD_meanGap (xfind []) 34 0 (List.zip [0, 1] [.ref a0, .int x1]) [] h := rfl
theorem tD_meanGap : XTo cX8_meanGap 3 RX8 2 3 64 0 [0, 1] (wD_meanGap (qD_meanGap)) := by
  refine XTo.run (B := BD_meanGap) (cut := xfind []) kD_meanGap (xcuts_ok (fun _ h => absurd h List.not_mem_nil)) 34 (fun vs st h r hr => ?_)
  unfold wD_meanGap at hr
  split at hr
  · exact (eD_meanGap _ _ _).symm.trans hr
  · cases hr
def FD_meanGap : List Value → XH → XR := fun vs h => match vs with
  | [.ref a0, .int x1] => qD_meanGap a0 x1 h
  | _ => none
theorem SD_meanGap : XS yX8_meanGap cX8_meanGap 3 (some .float) (xrm 3 64) FD_meanGap := by
  refine XS.of (own := RX8) (by decide) rfl (rk := 2) rfl (tD_meanGap) (fun vs h r hr => ?_)
  unfold FD_meanGap at hr
  split at hr
  · exact ⟨rfl, Nat.le_of_ble_eq_true rfl, hr⟩
  · cases hr
-- LineDiagramModel.meanGap(I)F
def rM_meanGap : List (Nat × XRow) := [(0, (.aload_n 0, 1, 0, .null, [])),
  (1, (.iload_n 1, 2, 1, .null, [])),
  (2, (.invokevirtual 103, 5, 103, .null, [])),
  (5, (.ifCond .eq 22, 8, 27, .null, [])),
  (8, (.aload_n 0, 9, 0, .null, [])),
  (9, (.iload_n 1, 10, 1, .null, [])),
  (10, (.invokevirtual 142, 13, 142, .null, [])),
  (13, (.i2f, 14, 0, .null, [])),
  (14, (.aload_n 0, 15, 0, .null, [])),
  (15, (.iload_n 1, 16, 1, .null, [])),
  (16, (.iconst 1, 17, 0, .int (1 : Int32), [])),
  (17, (.invokevirtual 88, 20, 88, .null, [])),
  (20, (.iconst 1, 21, 0, .int (1 : Int32), [])),
  (21, (.isub, 22, 0, .null, [])),
  (22, (.i2f, 23, 0, .null, [])),
  (23, (.fdiv, 24, 0, .null, [])),
  (24, (.goto 6, 27, 30, .null, [])),
  (27, (.ldc_w 469, 30, 469, .float (3212836864 : UInt32), [])),
  (30, (.freturn, 31, 0, .null, []))]
def mM_meanGap : List (Nat × XM) := [(88, (3, 1, some 9, FM_of)), (103, (2, 1, some 9, FM_isLine)), (142, (2, 1, some 9, FM_lengthOf))]
abbrev BM_meanGap : XB := (rM_meanGap, XFT_M, mM_meanGap, 2, XST_M)
set_option maxRecDepth 100000 in
theorem kM_meanGap : XOK BM_meanGap cX9_meanGap 2 RX9 4 91 := xok_of (cps := []) (K := XKT_M) (by decide +kernel) XKT_M_ok (fun _ h => absurd h List.not_mem_nil) XFT_M_ok (List.forall_mem_cons.mpr ⟨⟨_, _, _, _, _, _, _, SM_of, rfl, rfl, Nat.le_of_ble_eq_true rfl, Nat.le_of_ble_eq_true rfl, cdM_of, lkM_88, imM_of, slM_of, inM_of, pmM_of⟩, List.forall_mem_cons.mpr ⟨⟨_, _, _, _, _, _, _, SM_isLine, rfl, rfl, Nat.le_of_ble_eq_true rfl, Nat.le_of_ble_eq_true rfl, cdM_isLine, lkM_103, imM_isLine, slM_isLine, inM_isLine, pmM_isLine⟩, List.forall_mem_cons.mpr ⟨⟨_, _, _, _, _, _, _, SM_lengthOf, rfl, rfl, Nat.le_of_ble_eq_true rfl, Nat.le_of_ble_eq_true rfl, cdM_lengthOf, lkM_142, imM_lengthOf, slM_lengthOf, inM_lengthOf, pmM_lengthOf⟩, fun _ h => absurd h List.not_mem_nil⟩⟩⟩) XST_M_ok
def wM_meanGap (f : Nat → Int32 → XH → XR) : List Value → List Value → XH → XR := fun vs st h => match vs, st with
  | [.ref a0, .int x1], [] => f a0 x1 h
  | _, _ => none
set_option maxRecDepth 100000 in
theorem eM_meanGap (a0 : Nat) (x1 : Int32) (h : XH) : qM_meanGap a0 x1 h = xrun BM_meanGap (xfind []) 22 0 (List.zip [0, 1] [.ref a0, .int x1]) [] h := rfl
theorem tM_meanGap : XTo cX9_meanGap 2 RX9 2 4 91 0 [0, 1] (wM_meanGap (qM_meanGap)) := by
  refine XTo.run (B := BM_meanGap) (cut := xfind []) kM_meanGap (xcuts_ok (fun _ h => absurd h List.not_mem_nil)) 22 (fun vs st h r hr => ?_)
  unfold wM_meanGap at hr
  split at hr
  · exact (eM_meanGap _ _ _).symm.trans hr
  · cases hr
def FM_meanGap : List Value → XH → XR := fun vs h => match vs with
  | [.ref a0, .int x1] => qM_meanGap a0 x1 h
  | _ => none
theorem SM_meanGap : XS yX9_meanGap cX9_meanGap 2 (some .float) (xrm 4 91) FM_meanGap := by
  refine XS.of (own := RX9) (by decide) rfl (rk := 2) rfl (tM_meanGap) (fun vs h r hr => ?_)
  unfold FM_meanGap at hr
  split at hr
  · exact ⟨rfl, Nat.le_of_ble_eq_true rfl, hr⟩
  · cases hr
-- LineDiagram.labelled()D
def rD_labelled : List (Nat × XRow) := [(0, (.aload_n 0, 1, 0, .null, [])),
  (1, (.getfield 54, 4, 54, .null, [])),
  (4, (.invokevirtual 221, 7, 221, .null, [])),
  (7, (.istore_n 1, 8, 1, .null, [])),
  (8, (.iload_n 1, 9, 1, .null, [])),
  (9, (.ifCond .ne 7, 12, 16, .null, [])),
  (12, (.dconst 0, 13, 0, .double FP.dconst0, [])),
  (13, (.goto 17, 16, 30, .null, [])),
  (16, (.aload_n 0, 17, 0, .null, [])),
  (17, (.getfield 29, 20, 29, .null, [])),
  (20, (.getfield 161, 23, 161, .null, [])),
  (23, (.getfield 199, 26, 199, .null, [])),
  (26, (.i2d, 27, 0, .null, [])),
  (27, (.iload_n 1, 28, 1, .null, [])),
  (28, (.i2d, 29, 0, .null, [])),
  (29, (.ddiv, 30, 0, .null, [])),
  (30, (.dreturn, 31, 0, .null, []))]
def mD_labelled : List (Nat × XM) := [(221, (1, 1, some 0, FB_countPlaces))]
abbrev BD_labelled : XB := (rD_labelled, XFT_D, mD_labelled, 3, XST_D)
set_option maxRecDepth 100000 in
theorem kD_labelled : XOK BD_labelled cX8_labelled 2 RX8 2 45 := xok_of (cps := []) (K := XKT_D) (by decide +kernel) XKT_D_ok (fun _ h => absurd h List.not_mem_nil) XFT_D_ok (List.forall_mem_cons.mpr ⟨⟨_, _, _, _, _, _, _, SB_countPlaces, rfl, rfl, Nat.le_of_ble_eq_true rfl, Nat.le_of_ble_eq_true rfl, cdB_countPlaces, lkD_221, imB_countPlaces, slB_countPlaces, inB_countPlaces, pmB_countPlaces⟩, fun _ h => absurd h List.not_mem_nil⟩) XST_D_ok
def wD_labelled (f : Nat → XH → XR) : List Value → List Value → XH → XR := fun vs st h => match vs, st with
  | [.ref a0], [] => f a0 h
  | _, _ => none
set_option maxRecDepth 100000 in
theorem eD_labelled (a0 : Nat) (h : XH) : qD_labelled a0 h = xrun BD_labelled (xfind []) 20 0 (List.zip [0] [.ref a0]) [] h := rfl
theorem tD_labelled : XTo cX8_labelled 2 RX8 3 2 45 0 [0] (wD_labelled (qD_labelled)) := by
  refine XTo.run (B := BD_labelled) (cut := xfind []) kD_labelled (xcuts_ok (fun _ h => absurd h List.not_mem_nil)) 20 (fun vs st h r hr => ?_)
  unfold wD_labelled at hr
  split at hr
  · exact (eD_labelled _ _).symm.trans hr
  · cases hr
def FD_labelled : List Value → XH → XR := fun vs h => match vs with
  | [.ref a0] => qD_labelled a0 h
  | _ => none
theorem SD_labelled : XS yX8_labelled cX8_labelled 2 (some .double) (xrm 2 45) FD_labelled := by
  refine XS.of (own := RX8) (by decide) rfl (rk := 3) rfl (tD_labelled) (fun vs h r hr => ?_)
  unfold FD_labelled at hr
  split at hr
  · exact ⟨rfl, Nat.le_of_ble_eq_true rfl, hr⟩
  · cases hr
-- LineDiagramModel.labelled()D
def rM_labelled : List (Nat × XRow) := [(0, (.aload_n 0, 1, 0, .null, [])),
  (1, (.invokevirtual 380, 4, 380, .null, [])),
  (4, (.aload_n 0, 5, 0, .null, [])),
  (5, (.iconst 3, 6, 0, .int (3 : Int32), [])),
  (6, (.invokevirtual 420, 9, 420, .null, [])),
  (9, (.istore_n 1, 10, 1, .null, [])),
  (10, (.iload_n 1, 11, 1, .null, [])),
  (11, (.ifCond .ne 7, 14, 18, .null, [])),
  (14, (.dconst 0, 15, 0, .double FP.dconst0, [])),
  (15, (.goto 11, 18, 26, .null, [])),
  (18, (.aload_n 0, 19, 0, .null, [])),
  (19, (.invokevirtual 392, 22, 392, .null, [])),
  (22, (.i2d, 23, 0, .null, [])),
  (23, (.iload_n 1, 24, 1, .null, [])),
  (24, (.i2d, 25, 0, .null, [])),
  (25, (.ddiv, 26, 0, .null, [])),
  (26, (.dreturn, 27, 0, .null, []))]
def mM_labelled : List (Nat × XM) := [(380, (1, 0, some 9, FM_lays)), (392, (1, 1, some 9, FM_manyLabels)), (420, (2, 1, some 9, FM_cellsOf))]
abbrev BM_labelled : XB := (rM_labelled, XFT_M, mM_labelled, 3, XST_M)
set_option maxRecDepth 100000 in
theorem kM_labelled : XOK BM_labelled cX9_labelled 2 RX9 6 138 := xok_of (cps := []) (K := XKT_M) (by decide +kernel) XKT_M_ok (fun _ h => absurd h List.not_mem_nil) XFT_M_ok (List.forall_mem_cons.mpr ⟨⟨_, _, _, _, _, _, _, SM_lays, rfl, rfl, Nat.le_of_ble_eq_true rfl, Nat.le_of_ble_eq_true rfl, cdM_lays, lkM_380, imM_lays, slM_lays, inM_lays, pmM_lays⟩, List.forall_mem_cons.mpr ⟨⟨_, _, _, _, _, _, _, SM_manyLabels, rfl, rfl, Nat.le_of_ble_eq_true rfl, Nat.le_of_ble_eq_true rfl, cdM_manyLabels, lkM_392, imM_manyLabels, slM_manyLabels, inM_manyLabels, pmM_manyLabels⟩, List.forall_mem_cons.mpr ⟨⟨_, _, _, _, _, _, _, SM_cellsOf, rfl, rfl, Nat.le_of_ble_eq_true rfl, Nat.le_of_ble_eq_true rfl, cdM_cellsOf, lkM_420, imM_cellsOf, slM_cellsOf, inM_cellsOf, pmM_cellsOf⟩, fun _ h => absurd h List.not_mem_nil⟩⟩⟩) XST_M_ok
def wM_labelled (f : Nat → XH → XR) : List Value → List Value → XH → XR := fun vs st h => match vs, st with
  | [.ref a0], [] => f a0 h
  | _, _ => none
set_option maxRecDepth 100000 in
theorem eM_labelled (a0 : Nat) (h : XH) : qM_labelled a0 h = xrun BM_labelled (xfind []) 20 0 (List.zip [0] [.ref a0]) [] h := rfl
theorem tM_labelled : XTo cX9_labelled 2 RX9 3 6 138 0 [0] (wM_labelled (qM_labelled)) := by
  refine XTo.run (B := BM_labelled) (cut := xfind []) kM_labelled (xcuts_ok (fun _ h => absurd h List.not_mem_nil)) 20 (fun vs st h r hr => ?_)
  unfold wM_labelled at hr
  split at hr
  · exact (eM_labelled _ _).symm.trans hr
  · cases hr
def FM_labelled : List Value → XH → XR := fun vs h => match vs with
  | [.ref a0] => qM_labelled a0 h
  | _ => none
theorem SM_labelled : XS yX9_labelled cX9_labelled 2 (some .double) (xrm 6 138) FM_labelled := by
  refine XS.of (own := RX9) (by decide) rfl (rk := 3) rfl (tM_labelled) (fun vs h r hr => ?_)
  unfold FM_labelled at hr
  split at hr
  · exact ⟨rfl, Nat.le_of_ble_eq_true rfl, hr⟩
  · cases hr
-- LineDiagram.letterOf(II)I
def rD_letterOf : List (Nat × XRow) := [(0, (.iload_n 0, 1, 0, .null, [])),
  (1, (.iload_n 1, 2, 1, .null, [])),
  (2, (.invokestatic 349, 5, 349, .null, [])),
  (5, (.ishr, 6, 0, .null, [])),
  (6, (.bipush 31, 8, 0, .int (31 : Int32), [])),
  (8, (.iand, 9, 0, .null, [])),
  (9, (.ireturn, 10, 0, .null, []))]
def mD_letterOf : List (Nat × XM) := [(349, (1, 1, none, FD_shiftOf))]
abbrev BD_letterOf : XB := (rD_letterOf, XFT_D, mD_letterOf, 1, XST_D)
set_option maxRecDepth 100000 in
theorem kD_letterOf : XOK BD_letterOf cX8_letterOf 2 RX8 1 20 := xok_of (cps := []) (K := XKT_D) (by decide +kernel) XKT_D_ok (fun _ h => absurd h List.not_mem_nil) XFT_D_ok (List.forall_mem_cons.mpr ⟨⟨_, _, _, _, _, _, SD_shiftOf, Nat.le_of_ble_eq_true rfl, Nat.le_of_ble_eq_true rfl, cdD_shiftOf, lkD_349, imD_shiftOf, inD_shiftOf, pmD_shiftOf⟩, fun _ h => absurd h List.not_mem_nil⟩) XST_D_ok
def wD_letterOf (f : Int32 → Int32 → XH → XR) : List Value → List Value → XH → XR := fun vs st h => match vs, st with
  | [.int x0, .int x1], [] => f x0 x1 h
  | _, _ => none
set_option maxRecDepth 100000 in
theorem eD_letterOf (x0 : Int32) (x1 : Int32) (h : XH) : qD_letterOf x0 x1 h = xrun BD_letterOf (xfind []) 10 0 (List.zip [0, 1] [.int x0, .int x1]) [] h := rfl
theorem tD_letterOf : XTo cX8_letterOf 2 RX8 1 1 20 0 [0, 1] (wD_letterOf (qD_letterOf)) := by
  refine XTo.run (B := BD_letterOf) (cut := xfind []) kD_letterOf (xcuts_ok (fun _ h => absurd h List.not_mem_nil)) 10 (fun vs st h r hr => ?_)
  unfold wD_letterOf at hr
  split at hr
  · exact (eD_letterOf _ _ _).symm.trans hr
  · cases hr
def FD_letterOf : List Value → XH → XR := fun vs h => match vs with
  | [.int x0, .int x1] => qD_letterOf x0 x1 h
  | _ => none
theorem SD_letterOf : XS yX8_letterOf cX8_letterOf 2 (some .int) (xrm 1 20) FD_letterOf := by
  refine XS.of (own := RX8) (by decide) rfl (rk := 1) rfl (tD_letterOf) (fun vs h r hr => ?_)
  unfold FD_letterOf at hr
  split at hr
  · exact ⟨rfl, Nat.le_of_ble_eq_true rfl, hr⟩
  · cases hr
