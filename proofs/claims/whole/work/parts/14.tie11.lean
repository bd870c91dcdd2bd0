-- LineDiagram.insert(IIII)I
def rD_insert : List (Nat × XRow) := [(0, (.aload_n 0, 1, 0, .null, [])),
  (1, (.iload_n 1, 2, 1, .null, [])),
  (2, (.invokevirtual 115, 5, 115, .null, [])),
  (5, (.ifCond .eq 33, 8, 38, .null, [])),
  (8, (.aload_n 0, 9, 0, .null, [])),
  (9, (.iload_n 3, 10, 3, .null, [])),
  (10, (.iload 4, 12, 4, .null, [])),
  (12, (.invokevirtual 119, 15, 119, .null, [])),
  (15, (.ifCond .eq 23, 18, 38, .null, [])),
  (18, (.iload_n 2, 19, 2, .null, [])),
  (19, (.ifCond .lt 19, 22, 38, .null, [])),
  (22, (.iload_n 2, 23, 2, .null, [])),
  (23, (.aload_n 0, 24, 0, .null, [])),
  (24, (.getfield 29, 27, 29, .null, [])),
  (27, (.getfield 123, 30, 123, .null, [])),
  (30, (.iload_n 1, 31, 1, .null, [])),
  (31, (.aaload, 32, 0, .null, [])),
  (32, (.getfield 127, 35, 127, .null, [])),
  (35, (.if_icmp .le 5, 38, 40, .null, [])),
  (38, (.iconst (-1), 39, 0, .int (-1 : Int32), [])),
  (39, (.ireturn, 40, 0, .null, [])),
  (40, (.aload_n 0, 41, 0, .null, [])),
  (41, (.getfield 29, 44, 29, .null, [])),
  (44, (.getfield 123, 47, 123, .null, [])),
  (47, (.iload_n 1, 48, 1, .null, [])),
  (48, (.aaload, 49, 0, .null, [])),
  (49, (.getfield 127, 52, 127, .null, [])),
  (52, (.bipush 10, 54, 0, .int (10 : Int32), [])),
  (54, (.if_icmp .lt 6, 57, 60, .null, [])),
  (57, (.bipush (-2), 59, 0, .int (-2 : Int32), [])),
  (59, (.ireturn, 60, 0, .null, [])),
  (60, (.aload_n 0, 61, 0, .null, [])),
  (61, (.getfield 68, 64, 68, .null, [])),
  (64, (.aload_n 0, 65, 0, .null, [])),
  (65, (.getfield 29, 68, 29, .null, [])),
  (68, (.getfield 123, 71, 123, .null, [])),
  (71, (.iload_n 1, 72, 1, .null, [])),
  (72, (.aaload, 73, 0, .null, [])),
  (73, (.invokevirtual 130, 76, 130, .null, [])),
  (76, (.aload_n 0, 77, 0, .null, [])),
  (77, (.getfield 68, 80, 68, .null, [])),
  (80, (.iload_n 2, 81, 2, .null, [])),
  (81, (.iload_n 3, 82, 3, .null, [])),
  (82, (.iload 4, 84, 4, .null, [])),
  (84, (.invokevirtual 133, 87, 133, .null, [])),
  (87, (.aload_n 0, 88, 0, .null, [])),
  (88, (.iload_n 1, 89, 1, .null, [])),
  (89, (.invokevirtual 111, 92, 111, .null, [])),
  (92, (.ireturn, 93, 0, .null, []))]
def mD_insert : List (Nat × XM) := [(111, (2, 1, some 8, FD_change)), (115, (2, 1, some 8, FD_isLine)), (119, (3, 1, some 8, FD_isCell)), (130, (2, 0, some 3, FLn_copyFrom)), (133, (4, 0, some 3, FLn_insertPoint))]
abbrev BD_insert : XB := (rD_insert, XFT_D, mD_insert, 1, XST_D)
set_option maxRecDepth 100000 in
theorem kD_insert : XOK BD_insert cX8_insert 5 RX8 6 150 := xok_of (cps := []) (K := XKT_D) (by decide +kernel) XKT_D_ok (fun _ h => absurd h List.not_mem_nil) XFT_D_ok (List.forall_mem_cons.mpr ⟨⟨_, _, _, _, _, _, _, SD_change, rfl, rfl, Nat.le_of_ble_eq_true rfl, Nat.le_of_ble_eq_true rfl, cdD_change, lkD_111, imD_change, slD_change, inD_change, pmD_change⟩, List.forall_mem_cons.mpr ⟨⟨_, _, _, _, _, _, _, SD_isLine, rfl, rfl, Nat.le_of_ble_eq_true rfl, Nat.le_of_ble_eq_true rfl, cdD_isLine, lkD_115, imD_isLine, slD_isLine, inD_isLine, pmD_isLine⟩, List.forall_mem_cons.mpr ⟨⟨_, _, _, _, _, _, _, SD_isCell, rfl, rfl, Nat.le_of_ble_eq_true rfl, Nat.le_of_ble_eq_true rfl, cdD_isCell, lkD_119, imD_isCell, slD_isCell, inD_isCell, pmD_isCell⟩, List.forall_mem_cons.mpr ⟨⟨_, _, _, _, _, _, _, SLn_copyFrom, rfl, rfl, Nat.le_of_ble_eq_true rfl, Nat.le_of_ble_eq_true rfl, cdLn_copyFrom, lkD_130, imLn_copyFrom, slLn_copyFrom, inLn_copyFrom, pmLn_copyFrom⟩, List.forall_mem_cons.mpr ⟨⟨_, _, _, _, _, _, _, SLn_insertPoint, rfl, rfl, Nat.le_of_ble_eq_true rfl, Nat.le_of_ble_eq_true rfl, cdLn_insertPoint, lkD_133, imLn_insertPoint, slLn_insertPoint, inLn_insertPoint, pmLn_insertPoint⟩, fun _ h => absurd h List.not_mem_nil⟩⟩⟩⟩⟩) XST_D_ok
def wD_insert (f : Nat → Int32 → Int32 → Int32 → Int32 → XH → XR) : List Value → List Value → XH → XR := fun vs st h => match vs, st with
  | [.ref a0, .int x1, .int x2, .int x3, .int x4], [] => f a0 x1 x2 x3 x4 h
  | _, _ => none
set_option maxRecDepth 100000 in
theorem eD_insert (a0 : Nat) (x1 : Int32) (x2 : Int32) (x3 : Int32) (x4 : Int32) (h : XH) : qD_insert a0 x1 x2 x3 x4 h = xrun BD_insert (xfind []) 52 0 (List.zip [0, 1, 2, 3, 4] [.ref a0, .int x1, .int x2, .int x3, .int x4]) [] h := rfl
theorem tD_insert : XTo cX8_insert 5 RX8 1 6 150 0 [0, 1, 2, 3, 4] (wD_insert (qD_insert)) := by
  refine XTo.run (B := BD_insert) (cut := xfind []) kD_insert (xcuts_ok (fun _ h => absurd h List.not_mem_nil)) 52 (fun vs st h r hr => ?_)
  unfold wD_insert at hr
  split at hr
  · exact (eD_insert _ _ _ _ _ _).symm.trans hr
  · cases hr
def FD_insert : List Value → XH → XR := fun vs h => match vs with
  | [.ref a0, .int x1, .int x2, .int x3, .int x4] => qD_insert a0 x1 x2 x3 x4 h
  | _ => none
theorem SD_insert : XS yX8_insert cX8_insert 5 (some .int) (xrm 6 150) FD_insert := by
  refine XS.of (own := RX8) (by decide) rfl (rk := 1) rfl (tD_insert) (fun vs h r hr => ?_)
  unfold FD_insert at hr
  split at hr
  · exact ⟨rfl, Nat.le_of_ble_eq_true rfl, hr⟩
  · cases hr
-- LineDiagramModel.insert(IIII)I
def rM_insert : List (Nat × XRow) := [(0, (.aload_n 0, 1, 0, .null, [])),
  (1, (.iload_n 1, 2, 1, .null, [])),
  (2, (.invokevirtual 103, 5, 103, .null, [])),
  (5, (.ifCond .eq 29, 8, 34, .null, [])),
  (8, (.iload_n 2, 9, 2, .null, [])),
  (9, (.i2l, 10, 0, .null, [])),
  (10, (.lconst 0, 11, 0, .long (0 : Int64), [])),
  (11, (.aload_n 0, 12, 0, .null, [])),
  (12, (.iload_n 1, 13, 1, .null, [])),
  (13, (.iconst 2, 14, 0, .int (2 : Int32), [])),
  (14, (.invokevirtual 88, 17, 88, .null, [])),
  (17, (.i2l, 18, 0, .null, [])),
  (18, (.invokestatic 96, 21, 96, .null, [])),
  (21, (.ifCond .eq 13, 24, 34, .null, [])),
  (24, (.aload_n 0, 25, 0, .null, [])),
  (25, (.iload_n 3, 26, 3, .null, [])),
  (26, (.iload 4, 28, 4, .null, [])),
  (28, (.invokevirtual 346, 31, 346, .null, [])),
  (31, (.ifCond .ne 5, 34, 36, .null, [])),
  (34, (.iconst (-1), 35, 0, .int (-1 : Int32), [])),
  (35, (.ireturn, 36, 0, .null, [])),
  (36, (.aload_n 0, 37, 0, .null, [])),
  (37, (.iload_n 1, 38, 1, .null, [])),
  (38, (.iconst 2, 39, 0, .int (2 : Int32), [])),
  (39, (.invokevirtual 88, 42, 88, .null, [])),
  (42, (.bipush 10, 44, 0, .int (10 : Int32), [])),
  (44, (.if_icmp .ne 6, 47, 50, .null, [])),
  (47, (.bipush (-2), 49, 0, .int (-2 : Int32), [])),
  (49, (.ireturn, 50, 0, .null, [])),
  (50, (.aload_n 0, 51, 0, .null, [])),
  (51, (.invokevirtual 352, 54, 352, .null, [])),
  (54, (.aload_n 0, 55, 0, .null, [])),
  (55, (.iload_n 1, 56, 1, .null, [])),
  (56, (.iconst 2, 57, 0, .int (2 : Int32), [])),
  (57, (.invokevirtual 88, 60, 88, .null, [])),
  (60, (.istore 5, 62, 5, .null, [])),
  (62, (.iload 5, 64, 5, .null, [])),
  (64, (.iload_n 2, 65, 2, .null, [])),
  (65, (.if_icmp .le 34, 68, 99, .null, [])),
  (68, (.aload_n 0, 69, 0, .null, [])),
  (69, (.iload_n 1, 70, 1, .null, [])),
  (70, (.iload 5, 72, 5, .null, [])),
  (72, (.aload_n 0, 73, 0, .null, [])),
  (73, (.iload_n 1, 74, 1, .null, [])),
  (74, (.iload 5, 76, 5, .null, [])),
  (76, (.iconst 1, 77, 0, .int (1 : Int32), [])),
  (77, (.isub, 78, 0, .null, [])),
  (78, (.invokevirtual 120, 81, 120, .null, [])),
  (81, (.aload_n 0, 82, 0, .null, [])),
  (82, (.iload_n 1, 83, 1, .null, [])),
  (83, (.iload 5, 85, 5, .null, [])),
  (85, (.iconst 1, 86, 0, .int (1 : Int32), [])),
  (86, (.isub, 87, 0, .null, [])),
  (87, (.invokevirtual 123, 90, 123, .null, [])),
  (90, (.invokevirtual 355, 93, 355, .null, [])),
  (93, (.iinc 5 (-1), 96, 5, .int (-1 : Int32), [])),
  (96, (.goto (-34), 99, 62, .null, [])),
  (99, (.aload_n 0, 100, 0, .null, [])),
  (100, (.iload_n 1, 101, 1, .null, [])),
  (101, (.iload_n 2, 102, 2, .null, [])),
  (102, (.iload_n 3, 103, 3, .null, [])),
  (103, (.iload 4, 105, 4, .null, [])),
  (105, (.invokevirtual 355, 108, 355, .null, [])),
  (108, (.aload_n 0, 109, 0, .null, [])),
  (109, (.iload_n 1, 110, 1, .null, [])),
  (110, (.iconst 2, 111, 0, .int (2 : Int32), [])),
  (111, (.aload_n 0, 112, 0, .null, [])),
  (112, (.iload_n 1, 113, 1, .null, [])),
  (113, (.iconst 2, 114, 0, .int (2 : Int32), [])),
  (114, (.invokevirtual 88, 117, 88, .null, [])),
  (117, (.iconst 1, 118, 0, .int (1 : Int32), [])),
  (118, (.iadd, 119, 0, .null, [])),
  (119, (.invokevirtual 92, 122, 92, .null, [])),
  (122, (.aload_n 0, 123, 0, .null, [])),
  (123, (.iload_n 1, 124, 1, .null, [])),
  (124, (.invokevirtual 359, 127, 359, .null, [])),
  (127, (.ireturn, 128, 0, .null, []))]
def mM_insert : List (Nat × XM) := [(88, (3, 1, some 9, FM_of)), (92, (4, 0, some 9, FM_puts)), (96, (3, 1, none, FM_in)), (103, (2, 1, some 9, FM_isLine)), (120, (3, 1, some 9, FM_px)), (123, (3, 1, some 9, FM_py)), (346, (3, 1, some 9, FM_isCell)), (352, (1, 0, some 9, FM_thinks)), (355, (5, 0, some 9, FM_putsPoint)), (359, (2, 1, some 9, FM_settles))]
abbrev BM_insert : XB := (rM_insert, XFT_M, mM_insert, 1, XST_M)
set_option maxRecDepth 100000 in
theorem kM_insert : XOK BM_insert cX9_insert 6 RX9 7 162 := xok_of (cps := []) (K := XKT_M) (by decide +kernel) XKT_M_ok (fun _ h => absurd h List.not_mem_nil) XFT_M_ok (List.forall_mem_cons.mpr ⟨⟨_, _, _, _, _, _, _, SM_of, rfl, rfl, Nat.le_of_ble_eq_true rfl, Nat.le_of_ble_eq_true rfl, cdM_of, lkM_88, imM_of, slM_of, inM_of, pmM_of⟩, List.forall_mem_cons.mpr ⟨⟨_, _, _, _, _, _, _, SM_puts, rfl, rfl, Nat.le_of_ble_eq_true rfl, Nat.le_of_ble_eq_true rfl, cdM_puts, lkM_92, imM_puts, slM_puts, inM_puts, pmM_puts⟩, List.forall_mem_cons.mpr ⟨⟨_, _, _, _, _, _, SM_in, Nat.le_of_ble_eq_true rfl, Nat.le_of_ble_eq_true rfl, cdM_in, lkM_96, imM_in, inM_in, pmM_in⟩, List.forall_mem_cons.mpr ⟨⟨_, _, _, _, _, _, _, SM_isLine, rfl, rfl, Nat.le_of_ble_eq_true rfl, Nat.le_of_ble_eq_true rfl, cdM_isLine, lkM_103, imM_isLine, slM_isLine, inM_isLine, pmM_isLine⟩, List.forall_mem_cons.mpr ⟨⟨_, _, _, _, _, _, _, SM_px, rfl, rfl, Nat.le_of_ble_eq_true rfl, Nat.le_of_ble_eq_true rfl, cdM_px, lkM_120, imM_px, slM_px, inM_px, pmM_px⟩, List.forall_mem_cons.mpr ⟨⟨_, _, _, _, _, _, _, SM_py, rfl, rfl, Nat.le_of_ble_eq_true rfl, Nat.le_of_ble_eq_true rfl, cdM_py, lkM_123, imM_py, slM_py, inM_py, pmM_py⟩, List.forall_mem_cons.mpr ⟨⟨_, _, _, _, _, _, _, SM_isCell, rfl, rfl, Nat.le_of_ble_eq_true rfl, Nat.le_of_ble_eq_true rfl, cdM_isCell, lkM_346, imM_isCell, slM_isCell, inM_isCell, pmM_isCell⟩, List.forall_mem_cons.mpr ⟨⟨_, _, _, _, _, _, _, SM_thinks, rfl, rfl, Nat.le_of_ble_eq_true rfl, Nat.le_of_ble_eq_true rfl, cdM_thinks, lkM_352, imM_thinks, slM_thinks, inM_thinks, pmM_thinks⟩, List.forall_mem_cons.mpr ⟨⟨_, _, _, _, _, _, _, SM_putsPoint, rfl, rfl, Nat.le_of_ble_eq_true rfl, Nat.le_of_ble_eq_true rfl, cdM_putsPoint, lkM_355, imM_putsPoint, slM_putsPoint, inM_putsPoint, pmM_putsPoint⟩, List.forall_mem_cons.mpr ⟨⟨_, _, _, _, _, _, _, SM_settles, rfl, rfl, Nat.le_of_ble_eq_true rfl, Nat.le_of_ble_eq_true rfl, cdM_settles, lkM_359, imM_settles, slM_settles, inM_settles, pmM_settles⟩, fun _ h => absurd h List.not_mem_nil⟩⟩⟩⟩⟩⟩⟩⟩⟩⟩) XST_M_ok
def wM_insert_99 (f : Nat → Int32 → Int32 → Int32 → Int32 → XH → XR) : List Value → List Value → XH → XR := fun vs st h => match vs, st with
  | [.ref a0, .int x1, .int x2, .int x3, .int x4], [] => f a0 x1 x2 x3 x4 h
  | _, _ => none
def wM_insert_62 (f : Nat → Int32 → Int32 → Int32 → Int32 → Int32 → XH → XR) : List Value → List Value → XH → XR := fun vs st h => match vs, st with
  | [.ref a0, .int x1, .int x2, .int x3, .int x4, .int x5], [] => f a0 x1 x2 x3 x4 x5 h
  | _, _ => none
def wM_insert (f : Nat → Int32 → Int32 → Int32 → Int32 → XH → XR) : List Value → List Value → XH → XR := fun vs st h => match vs, st with
  | [.ref a0, .int x1, .int x2, .int x3, .int x4], [] => f a0 x1 x2 x3 x4 h
  | _, _ => none
set_option maxRecDepth 100000 in
theorem eM_insert_99 (a0 : Nat) (x1 : Int32) (x2 : Int32) (x3 : Int32) (x4 : Int32) (h : XH) : qM_insert_99 a0 x1 x2 x3 x4 h = xrun BM_insert (xfind []) 80 99 (List.zip [0, 1, 2, 3, 4] [.ref a0, .int x1, .int x2, .int x3, .int x4]) [] h := rfl
theorem tM_insert_99 : XTo cX9_insert 6 RX9 1 7 162 99 [0, 1, 2, 3, 4] (wM_insert_99 (qM_insert_99)) := by
  refine XTo.run (B := BM_insert) (cut := xfind []) kM_insert (xcuts_ok (fun _ h => absurd h List.not_mem_nil)) 80 (fun vs st h r hr => ?_)
  unfold wM_insert_99 at hr
  split at hr
  · exact (eM_insert_99 _ _ _ _ _ _).symm.trans hr
  · cases hr
set_option maxRecDepth 100000 in
theorem eM_insert_62_b (k62 : Nat → Int32 → Int32 → Int32 → Int32 → Int32 → XH → XR) (a0 : Nat) (x1 : Int32) (x2 : Int32) (x3 : Int32) (x4 : Int32) (x5 : Int32) (h : XH) : qM_insert_62_b k62 a0 x1 x2 x3 x4 x5 h = xrun BM_insert (xfind [(62, ([0, 1, 2, 3, 4, 5], wM_insert_62 (k62))), (99, ([0, 1, 2, 3, 4], wM_insert_99 (qM_insert_99)))]) 80 62 (List.zip [0, 1, 2, 3, 4, 5] [.ref a0, .int x1, .int x2, .int x3, .int x4, .int x5]) [] h := rfl
theorem tM_insert_62_b {k62 : Nat → Int32 → Int32 → Int32 → Int32 → Int32 → XH → XR} (hk62 : XTo cX9_insert 6 RX9 1 7 162 62 [0, 1, 2, 3, 4, 5] (wM_insert_62 k62)) : XTo cX9_insert 6 RX9 1 7 162 62 [0, 1, 2, 3, 4, 5] (wM_insert_62 (qM_insert_62_b k62)) := by
  refine XTo.run (B := BM_insert) (cut := xfind [(62, ([0, 1, 2, 3, 4, 5], wM_insert_62 (k62))), (99, ([0, 1, 2, 3, 4], wM_insert_99 (qM_insert_99)))]) kM_insert (xcuts_ok (List.forall_mem_cons.mpr ⟨hk62, List.forall_mem_cons.mpr ⟨tM_insert_99, fun _ h => absurd h List.not_mem_nil⟩⟩)) 80 (fun vs st h r hr => ?_)
  unfold wM_insert_62 at hr
  split at hr
  · exact (eM_insert_62_b k62 _ _ _ _ _ _ _).symm.trans hr
  · cases hr
theorem tM_insert_62 : ∀ n : Nat, XTo cX9_insert 6 RX9 1 7 162 62 [0, 1, 2, 3, 4, 5] (wM_insert_62 (qM_insert_62 n)) := by
  intro n
  induction n with
  | zero =>
    refine XTo.none fun vs st h => ?_
    unfold wM_insert_62
    split <;> rfl
  | succ n ih => exact tM_insert_62_b  ih
set_option maxRecDepth 100000 in
theorem eM_insert (a0 : Nat) (x1 : Int32) (x2 : Int32) (x3 : Int32) (x4 : Int32) (h : XH) : qM_insert a0 x1 x2 x3 x4 h = xrun BM_insert (xfind [(62, ([0, 1, 2, 3, 4, 5], wM_insert_62 (qM_insert_62 LF)))]) 80 0 (List.zip [0, 1, 2, 3, 4] [.ref a0, .int x1, .int x2, .int x3, .int x4]) [] h := rfl
theorem tM_insert : XTo cX9_insert 6 RX9 1 7 162 0 [0, 1, 2, 3, 4] (wM_insert (qM_insert)) := by
  refine XTo.run (B := BM_insert) (cut := xfind [(62, ([0, 1, 2, 3, 4, 5], wM_insert_62 (qM_insert_62 LF)))]) kM_insert (xcuts_ok (List.forall_mem_cons.mpr ⟨tM_insert_62 LF, fun _ h => absurd h List.not_mem_nil⟩)) 80 (fun vs st h r hr => ?_)
  unfold wM_insert at hr
  split at hr
  · exact (eM_insert _ _ _ _ _ _).symm.trans hr
  · cases hr
def FM_insert : List Value → XH → XR := fun vs h => match vs with
  | [.ref a0, .int x1, .int x2, .int x3, .int x4] => qM_insert a0 x1 x2 x3 x4 h
  | _ => none
theorem SM_insert : XS yX9_insert cX9_insert 6 (some .int) (xrm 7 162) FM_insert := by
  refine XS.of (own := RX9) (by decide) rfl (rk := 1) rfl (tM_insert) (fun vs h r hr => ?_)
  unfold FM_insert at hr
  split at hr
  · exact ⟨rfl, Nat.le_of_ble_eq_true rfl, hr⟩
  · cases hr
-- LineDiagram$Line.dropPoint(I)V
def rLn_dropPoint : List (Nat × XRow) := [(0, (.iload_n 1, 1, 1, .null, [])),
  (1, (.ifCond .lt 11, 4, 12, .null, [])),
  (4, (.iload_n 1, 5, 1, .null, [])),
  (5, (.aload_n 0, 6, 0, .null, [])),
  (6, (.getfield 22, 9, 22, .null, [])),
  (9, (.if_icmp .lt 4, 12, 13, .null, [])),
  (12, (.return_, 13, 0, .null, [])),
  (13, (.aload_n 0, 14, 0, .null, [])),
  (14, (.dup, 15, 0, .null, [])),
  (15, (.getfield 22, 18, 22, .null, [])),
  (18, (.iconst 1, 19, 0, .int (1 : Int32), [])),
  (19, (.isub, 20, 0, .null, [])),
  (20, (.putfield 22, 23, 22, .null, [])),
  (23, (.iload_n 1, 24, 1, .null, [])),
  (24, (.istore_n 2, 25, 2, .null, [])),
  (25, (.iload_n 2, 26, 2, .null, [])),
  (26, (.aload_n 0, 27, 0, .null, [])),
  (27, (.getfield 22, 30, 22, .null, [])),
  (30, (.if_icmp .ge 37, 33, 67, .null, [])),
  (33, (.aload_n 0, 34, 0, .null, [])),
  (34, (.getfield 9, 37, 9, .null, [])),
  (37, (.iload_n 2, 38, 2, .null, [])),
  (38, (.aload_n 0, 39, 0, .null, [])),
  (39, (.getfield 9, 42, 9, .null, [])),
  (42, (.iload_n 2, 43, 2, .null, [])),
  (43, (.iconst 1, 44, 0, .int (1 : Int32), [])),
  (44, (.iadd, 45, 0, .null, [])),
  (45, (.iaload, 46, 0, .null, [])),
  (46, (.iastore, 47, 0, .null, [])),
  (47, (.aload_n 0, 48, 0, .null, [])),
  (48, (.getfield 15, 51, 15, .null, [])),
  (51, (.iload_n 2, 52, 2, .null, [])),
  (52, (.aload_n 0, 53, 0, .null, [])),
  (53, (.getfield 15, 56, 15, .null, [])),
  (56, (.iload_n 2, 57, 2, .null, [])),
  (57, (.iconst 1, 58, 0, .int (1 : Int32), [])),
  (58, (.iadd, 59, 0, .null, [])),
  (59, (.iaload, 60, 0, .null, [])),
  (60, (.iastore, 61, 0, .null, [])),
  (61, (.iinc 2 1, 64, 2, .int (1 : Int32), [])),
  (64, (.goto (-39), 67, 25, .null, [])),
  (67, (.return_, 68, 0, .null, []))]
def mLn_dropPoint : List (Nat × XM) := []
abbrev BLn_dropPoint : XB := (rLn_dropPoint, XFT_Ln, mLn_dropPoint, 0, XST_Ln)
set_option maxRecDepth 100000 in
theorem kLn_dropPoint : XOK BLn_dropPoint cX3_dropPoint 3 RX3 0 0 := xok_of (cps := []) (K := XKT_Ln) (by decide +kernel) XKT_Ln_ok (fun _ h => absurd h List.not_mem_nil) XFT_Ln_ok (fun _ h => absurd h List.not_mem_nil) XST_Ln_ok
def wLn_dropPoint_25 (f : Nat → Int32 → XH → XR) : List Value → List Value → XH → XR := fun vs st h => match vs, st with
  | [.ref a0, .int x2], [] => f a0 x2 h
  | _, _ => none
def wLn_dropPoint (f : Nat → Int32 → XH → XR) : List Value → List Value → XH → XR := fun vs st h => match vs, st with
  | [.ref a0, .int x1], [] => f a0 x1 h
  | _, _ => none
set_option maxRecDepth 100000 in
theorem eLn_dropPoint_25_b (k25 : Nat → Int32 → XH → XR) (a0 : Nat) (x2 : Int32) (h : XH) : qLn_dropPoint_25_b k25 a0 x2 h = xrun BLn_dropPoint (xfind [(25, ([0, 2], wLn_dropPoint_25 (k25)))]) 45 25 (List.zip [0, 2] [.ref a0, .int x2]) [] h := rfl
theorem tLn_dropPoint_25_b {k25 : Nat → Int32 → XH → XR} (hk25 : XTo cX3_dropPoint 3 RX3 0 0 0 25 [0, 2] (wLn_dropPoint_25 k25)) : XTo cX3_dropPoint 3 RX3 0 0 0 25 [0, 2] (wLn_dropPoint_25 (qLn_dropPoint_25_b k25)) := by
  refine XTo.run (B := BLn_dropPoint) (cut := xfind [(25, ([0, 2], wLn_dropPoint_25 (k25)))]) kLn_dropPoint (xcuts_ok (List.forall_mem_cons.mpr ⟨hk25, fun _ h => absurd h List.not_mem_nil⟩)) 45 (fun vs st h r hr => ?_)
  unfold wLn_dropPoint_25 at hr
  split at hr
  · exact (eLn_dropPoint_25_b k25 _ _ _).symm.trans hr
  · cases hr
theorem tLn_dropPoint_25 : ∀ n : Nat, XTo cX3_dropPoint 3 RX3 0 0 0 25 [0, 2] (wLn_dropPoint_25 (qLn_dropPoint_25 n)) := by
  intro n
  induction n with
  | zero =>
    refine XTo.none fun vs st h => ?_
    unfold wLn_dropPoint_25
    split <;> rfl
  | succ n ih => exact tLn_dropPoint_25_b  ih
set_option maxRecDepth 100000 in
theorem eLn_dropPoint (a0 : Nat) (x1 : Int32) (h : XH) : qLn_dropPoint a0 x1 h = xrun BLn_dropPoint (xfind [(25, ([0, 2], wLn_dropPoint_25 (qLn_dropPoint_25 LF)))]) 45 0 (List.zip [0, 1] [.ref a0, .int x1]) [] h := rfl
theorem tLn_dropPoint : XTo cX3_dropPoint 3 RX3 0 0 0 0 [0, 1] (wLn_dropPoint (qLn_dropPoint)) := by
  refine XTo.run (B := BLn_dropPoint) (cut := xfind [(25, ([0, 2], wLn_dropPoint_25 (qLn_dropPoint_25 LF)))]) kLn_dropPoint (xcuts_ok (List.forall_mem_cons.mpr ⟨tLn_dropPoint_25 LF, fun _ h => absurd h List.not_mem_nil⟩)) 45 (fun vs st h r hr => ?_)
  unfold wLn_dropPoint at hr
  split at hr
  · exact (eLn_dropPoint _ _ _).symm.trans hr
  · cases hr
def FLn_dropPoint : List Value → XH → XR := fun vs h => match vs with
  | [.ref a0, .int x1] => qLn_dropPoint a0 x1 h
  | _ => none
theorem SLn_dropPoint : XS yX3_dropPoint cX3_dropPoint 3 none (xrm 0 0) FLn_dropPoint := by
  refine XS.of (own := RX3) (by decide) rfl (rk := 0) rfl (tLn_dropPoint) (fun vs h r hr => ?_)
  unfold FLn_dropPoint at hr
  split at hr
  · exact ⟨rfl, Nat.le_of_ble_eq_true rfl, hr⟩
  · cases hr
-- LineDiagram.removePoint(II)I
def rD_removePoint : List (Nat × XRow) := [(0, (.aload_n 0, 1, 0, .null, [])),
  (1, (.iload_n 1, 2, 1, .null, [])),
  (2, (.iload_n 2, 3, 2, .null, [])),
  (3, (.invokevirtual 136, 6, 136, .null, [])),
  (6, (.ifCond .ne 5, 9, 11, .null, [])),
  (9, (.iconst (-1), 10, 0, .int (-1 : Int32), [])),
  (10, (.ireturn, 11, 0, .null, [])),
  (11, (.aload_n 0, 12, 0, .null, [])),
  (12, (.getfield 29, 15, 29, .null, [])),
  (15, (.getfield 123, 18, 123, .null, [])),
  (18, (.iload_n 1, 19, 1, .null, [])),
  (19, (.aaload, 20, 0, .null, [])),
  (20, (.getfield 127, 23, 127, .null, [])),
  (23, (.iconst 2, 24, 0, .int (2 : Int32), [])),
  (24, (.if_icmp .gt 6, 27, 30, .null, [])),
  (27, (.bipush (-2), 29, 0, .int (-2 : Int32), [])),
  (29, (.ireturn, 30, 0, .null, [])),
  (30, (.aload_n 0, 31, 0, .null, [])),
  (31, (.getfield 68, 34, 68, .null, [])),
  (34, (.aload_n 0, 35, 0, .null, [])),
  (35, (.getfield 29, 38, 29, .null, [])),
  (38, (.getfield 123, 41, 123, .null, [])),
  (41, (.iload_n 1, 42, 1, .null, [])),
  (42, (.aaload, 43, 0, .null, [])),
  (43, (.invokevirtual 130, 46, 130, .null, [])),
  (46, (.aload_n 0, 47, 0, .null, [])),
  (47, (.getfield 68, 50, 68, .null, [])),
  (50, (.iload_n 2, 51, 2, .null, [])),
  (51, (.invokevirtual 139, 54, 139, .null, [])),
  (54, (.aload_n 0, 55, 0, .null, [])),
  (55, (.iload_n 1, 56, 1, .null, [])),
  (56, (.invokevirtual 111, 59, 111, .null, [])),
  (59, (.ireturn, 60, 0, .null, []))]
def mD_removePoint : List (Nat × XM) := [(111, (2, 1, some 8, FD_change)), (130, (2, 0, some 3, FLn_copyFrom)), (136, (3, 1, some 8, FD_isPoint)), (139, (2, 0, some 3, FLn_dropPoint))]
abbrev BD_removePoint : XB := (rD_removePoint, XFT_D, mD_removePoint, 1, XST_D)
set_option maxRecDepth 100000 in
theorem kD_removePoint : XOK BD_removePoint cX8_removePoint 3 RX8 6 150 := xok_of (cps := []) (K := XKT_D) (by decide +kernel) XKT_D_ok (fun _ h => absurd h List.not_mem_nil) XFT_D_ok (List.forall_mem_cons.mpr ⟨⟨_, _, _, _, _, _, _, SD_change, rfl, rfl, Nat.le_of_ble_eq_true rfl, Nat.le_of_ble_eq_true rfl, cdD_change, lkD_111, imD_change, slD_change, inD_change, pmD_change⟩, List.forall_mem_cons.mpr ⟨⟨_, _, _, _, _, _, _, SLn_copyFrom, rfl, rfl, Nat.le_of_ble_eq_true rfl, Nat.le_of_ble_eq_true rfl, cdLn_copyFrom, lkD_130, imLn_copyFrom, slLn_copyFrom, inLn_copyFrom, pmLn_copyFrom⟩, List.forall_mem_cons.mpr ⟨⟨_, _, _, _, _, _, _, SD_isPoint, rfl, rfl, Nat.le_of_ble_eq_true rfl, Nat.le_of_ble_eq_true rfl, cdD_isPoint, lkD_136, imD_isPoint, slD_isPoint, inD_isPoint, pmD_isPoint⟩, List.forall_mem_cons.mpr ⟨⟨_, _, _, _, _, _, _, SLn_dropPoint, rfl, rfl, Nat.le_of_ble_eq_true rfl, Nat.le_of_ble_eq_true rfl, cdLn_dropPoint, lkD_139, imLn_dropPoint, slLn_dropPoint, inLn_dropPoint, pmLn_dropPoint⟩, fun _ h => absurd h List.not_mem_nil⟩⟩⟩⟩) XST_D_ok
def wD_removePoint (f : Nat → Int32 → Int32 → XH → XR) : List Value → List Value → XH → XR := fun vs st h => match vs, st with
  | [.ref a0, .int x1, .int x2], [] => f a0 x1 x2 h
  | _, _ => none
set_option maxRecDepth 100000 in
theorem eD_removePoint (a0 : Nat) (x1 : Int32) (x2 : Int32) (h : XH) : qD_removePoint a0 x1 x2 h = xrun BD_removePoint (xfind []) 36 0 (List.zip [0, 1, 2] [.ref a0, .int x1, .int x2]) [] h := rfl
theorem tD_removePoint : XTo cX8_removePoint 3 RX8 1 6 150 0 [0, 1, 2] (wD_removePoint (qD_removePoint)) := by
  refine XTo.run (B := BD_removePoint) (cut := xfind []) kD_removePoint (xcuts_ok (fun _ h => absurd h List.not_mem_nil)) 36 (fun vs st h r hr => ?_)
  unfold wD_removePoint at hr
  split at hr
  · exact (eD_removePoint _ _ _ _).symm.trans hr
  · cases hr
def FD_removePoint : List Value → XH → XR := fun vs h => match vs with
  | [.ref a0, .int x1, .int x2] => qD_removePoint a0 x1 x2 h
  | _ => none
theorem SD_removePoint : XS yX8_removePoint cX8_removePoint 3 (some .int) (xrm 6 150) FD_removePoint := by
  refine XS.of (own := RX8) (by decide) rfl (rk := 1) rfl (tD_removePoint) (fun vs h r hr => ?_)
  unfold FD_removePoint at hr
  split at hr
  · exact ⟨rfl, Nat.le_of_ble_eq_true rfl, hr⟩
  · cases hr
-- LineDiagramModel.removePoint(II)I
def rM_removePoint : List (Nat × XRow) := [(0, (.aload_n 0, 1, 0, .null, [])),
  (1, (.iload_n 1, 2, 1, .null, [])),
  (2, (.iload_n 2, 3, 2, .null, [])),
  (3, (.invokevirtual 343, 6, 343, .null, [])),
  (6, (.ifCond .ne 5, 9, 11, .null, [])),
  (9, (.iconst (-1), 10, 0, .int (-1 : Int32), [])),
  (10, (.ireturn, 11, 0, .null, [])),
  (11, (.aload_n 0, 12, 0, .null, [])),
  (12, (.iload_n 1, 13, 1, .null, [])),
  (13, (.iconst 2, 14, 0, .int (2 : Int32), [])),
  (14, (.invokevirtual 88, 17, 88, .null, [])),
  (17, (.iconst 2, 18, 0, .int (2 : Int32), [])),
  (18, (.if_icmp .ne 6, 21, 24, .null, [])),
  (21, (.bipush (-2), 23, 0, .int (-2 : Int32), [])),
  (23, (.ireturn, 24, 0, .null, [])),
  (24, (.aload_n 0, 25, 0, .null, [])),
  (25, (.invokevirtual 352, 28, 352, .null, [])),
  (28, (.aload_n 0, 29, 0, .null, [])),
  (29, (.iload_n 1, 30, 1, .null, [])),
  (30, (.iconst 2, 31, 0, .int (2 : Int32), [])),
  (31, (.aload_n 0, 32, 0, .null, [])),
  (32, (.iload_n 1, 33, 1, .null, [])),
  (33, (.iconst 2, 34, 0, .int (2 : Int32), [])),
  (34, (.invokevirtual 88, 37, 88, .null, [])),
  (37, (.iconst 1, 38, 0, .int (1 : Int32), [])),
  (38, (.isub, 39, 0, .null, [])),
  (39, (.invokevirtual 92, 42, 92, .null, [])),
  (42, (.iload_n 2, 43, 2, .null, [])),
  (43, (.istore_n 3, 44, 3, .null, [])),
  (44, (.iload_n 3, 45, 3, .null, [])),
  (45, (.aload_n 0, 46, 0, .null, [])),
  (46, (.iload_n 1, 47, 1, .null, [])),
  (47, (.iconst 2, 48, 0, .int (2 : Int32), [])),
  (48, (.invokevirtual 88, 51, 88, .null, [])),
  (51, (.if_icmp .ge 31, 54, 82, .null, [])),
  (54, (.aload_n 0, 55, 0, .null, [])),
  (55, (.iload_n 1, 56, 1, .null, [])),
  (56, (.iload_n 3, 57, 3, .null, [])),
  (57, (.aload_n 0, 58, 0, .null, [])),
  (58, (.iload_n 1, 59, 1, .null, [])),
  (59, (.iload_n 3, 60, 3, .null, [])),
  (60, (.iconst 1, 61, 0, .int (1 : Int32), [])),
  (61, (.iadd, 62, 0, .null, [])),
  (62, (.invokevirtual 120, 65, 120, .null, [])),
  (65, (.aload_n 0, 66, 0, .null, [])),
  (66, (.iload_n 1, 67, 1, .null, [])),
  (67, (.iload_n 3, 68, 3, .null, [])),
  (68, (.iconst 1, 69, 0, .int (1 : Int32), [])),
  (69, (.iadd, 70, 0, .null, [])),
  (70, (.invokevirtual 123, 73, 123, .null, [])),
  (73, (.invokevirtual 355, 76, 355, .null, [])),
  (76, (.iinc 3 1, 79, 3, .int (1 : Int32), [])),
  (79, (.goto (-35), 82, 44, .null, [])),
  (82, (.aload_n 0, 83, 0, .null, [])),
  (83, (.iload_n 1, 84, 1, .null, [])),
  (84, (.invokevirtual 359, 87, 359, .null, [])),
  (87, (.ireturn, 88, 0, .null, []))]
def mM_removePoint : List (Nat × XM) := [(88, (3, 1, some 9, FM_of)), (92, (4, 0, some 9, FM_puts)), (120, (3, 1, some 9, FM_px)), (123, (3, 1, some 9, FM_py)), (343, (3, 1, some 9, FM_isPoint)), (352, (1, 0, some 9, FM_thinks)), (355, (5, 0, some 9, FM_putsPoint)), (359, (2, 1, some 9, FM_settles))]
abbrev BM_removePoint : XB := (rM_removePoint, XFT_M, mM_removePoint, 1, XST_M)
set_option maxRecDepth 100000 in
theorem kM_removePoint : XOK BM_removePoint cX9_removePoint 4 RX9 7 162 := xok_of (cps := []) (K := XKT_M) (by decide +kernel) XKT_M_ok (fun _ h => absurd h List.not_mem_nil) XFT_M_ok (List.forall_mem_cons.mpr ⟨⟨_, _, _, _, _, _, _, SM_of, rfl, rfl, Nat.le_of_ble_eq_true rfl, Nat.le_of_ble_eq_true rfl, cdM_of, lkM_88, imM_of, slM_of, inM_of, pmM_of⟩, List.forall_mem_cons.mpr ⟨⟨_, _, _, _, _, _, _, SM_puts, rfl, rfl, Nat.le_of_ble_eq_true rfl, Nat.le_of_ble_eq_true rfl, cdM_puts, lkM_92, imM_puts, slM_puts, inM_puts, pmM_puts⟩, List.forall_mem_cons.mpr ⟨⟨_, _, _, _, _, _, _, SM_px, rfl, rfl, Nat.le_of_ble_eq_true rfl, Nat.le_of_ble_eq_true rfl, cdM_px, lkM_120, imM_px, slM_px, inM_px, pmM_px⟩, List.forall_mem_cons.mpr ⟨⟨_, _, _, _, _, _, _, SM_py, rfl, rfl, Nat.le_of_ble_eq_true rfl, Nat.le_of_ble_eq_true rfl, cdM_py, lkM_123, imM_py, slM_py, inM_py, pmM_py⟩, List.forall_mem_cons.mpr ⟨⟨_, _, _, _, _, _, _, SM_isPoint, rfl, rfl, Nat.le_of_ble_eq_true rfl, Nat.le_of_ble_eq_true rfl, cdM_isPoint, lkM_343, imM_isPoint, slM_isPoint, inM_isPoint, pmM_isPoint⟩, List.forall_mem_cons.mpr ⟨⟨_, _, _, _, _, _, _, SM_thinks, rfl, rfl, Nat.le_of_ble_eq_true rfl, Nat.le_of_ble_eq_true rfl, cdM_thinks, lkM_352, imM_thinks, slM_thinks, inM_thinks, pmM_thinks⟩, List.forall_mem_cons.mpr ⟨⟨_, _, _, _, _, _, _, SM_putsPoint, rfl, rfl, Nat.le_of_ble_eq_true rfl, Nat.le_of_ble_eq_true rfl, cdM_putsPoint, lkM_355, imM_putsPoint, slM_putsPoint, inM_putsPoint, pmM_putsPoint⟩, List.forall_mem_cons.mpr ⟨⟨_, _, _, _, _, _, _, SM_settles, rfl, rfl, Nat.le_of_ble_eq_true rfl, Nat.le_of_ble_eq_true rfl, cdM_settles, lkM_359, imM_settles, slM_settles, inM_settles, pmM_settles⟩, fun _ h => absurd h List.not_mem_nil⟩⟩⟩⟩⟩⟩⟩⟩) XST_M_ok
def wM_removePoint_82 (f : Nat → Int32 → XH → XR) : List Value → List Value → XH → XR := fun vs st h => match vs, st with
  | [.ref a0, .int x1], [] => f a0 x1 h
  | _, _ => none
def wM_removePoint_44 (f : Nat → Int32 → Int32 → XH → XR) : List Value → List Value → XH → XR := fun vs st h => match vs, st with
  | [.ref a0, .int x1, .int x3], [] => f a0 x1 x3 h
  | _, _ => none
def wM_removePoint (f : Nat → Int32 → Int32 → XH → XR) : List Value → List Value → XH → XR := fun vs st h => match vs, st with
  | [.ref a0, .int x1, .int x2], [] => f a0 x1 x2 h
  | _, _ => none
set_option maxRecDepth 100000 in
theorem eM_removePoint_82 (a0 : Nat) (x1 : Int32) (h : XH) : qM_removePoint_82 a0 x1 h = xrun BM_removePoint (xfind []) 60 82 (List.zip [0, 1] [.ref a0, .int x1]) [] h := rfl
theorem tM_removePoint_82 : XTo cX9_removePoint 4 RX9 1 7 162 82 [0, 1] (wM_removePoint_82 (qM_removePoint_82)) := by
  refine XTo.run (B := BM_removePoint) (cut := xfind []) kM_removePoint (xcuts_ok (fun _ h => absurd h List.not_mem_nil)) 60 (fun vs st h r hr => ?_)
  unfold wM_removePoint_82 at hr
  split at hr
  · exact (eM_removePoint_82 _ _ _).symm.trans hr
  · cases hr
set_option maxRecDepth 100000 in
theorem eM_removePoint_44_b (k44 : Nat → Int32 → Int32 → XH → XR) (a0 : Nat) (x1 : Int32) (x3 : Int32) (h : XH) : qM_removePoint_44_b k44 a0 x1 x3 h = xrun BM_removePoint (xfind [(44, ([0, 1, 3], wM_removePoint_44 (k44))), (82, ([0, 1], wM_removePoint_82 (qM_removePoint_82)))]) 60 44 (List.zip [0, 1, 3] [.ref a0, .int x1, .int x3]) [] h := rfl
theorem tM_removePoint_44_b {k44 : Nat → Int32 → Int32 → XH → XR} (hk44 : XTo cX9_removePoint 4 RX9 1 7 162 44 [0, 1, 3] (wM_removePoint_44 k44)) : XTo cX9_removePoint 4 RX9 1 7 162 44 [0, 1, 3] (wM_removePoint_44 (qM_removePoint_44_b k44)) := by
  refine XTo.run (B := BM_removePoint) (cut := xfind [(44, ([0, 1, 3], wM_removePoint_44 (k44))), (82, ([0, 1], wM_removePoint_82 (qM_removePoint_82)))]) kM_removePoint (xcuts_ok (List.forall_mem_cons.mpr ⟨hk44, List.forall_mem_cons.mpr ⟨tM_removePoint_82, fun _ h => absurd h List.not_mem_nil⟩⟩)) 60 (fun vs st h r hr => ?_)
  unfold wM_removePoint_44 at hr
  split at hr
  · exact (eM_removePoint_44_b k44 _ _ _ _).symm.trans hr
  · cases hr
theorem tM_removePoint_44 : ∀ n : Nat, XTo cX9_removePoint 4 RX9 1 7 162 44 [0, 1, 3] (wM_removePoint_44 (qM_removePoint_44 n)) := by
  intro n
  induction n with
  | zero =>
    refine XTo.none fun vs st h => ?_
    unfold wM_removePoint_44
    split <;> rfl
  | succ n ih => exact tM_removePoint_44_b  ih
set_option maxRecDepth 100000 in
theorem eM_removePoint (a0 : Nat) (x1 : Int32) (x2 : Int32) (h : XH) : qM_removePoint a0 x1 x2 h = xrun BM_removePoint (xfind [(44, ([0, 1, 3], wM_removePoint_44 (qM_removePoint_44 LF)))]) 60 0 (List.zip [0, 1, 2] [.ref a0, .int x1, .int x2]) [] h := rfl
theorem tM_removePoint : XTo cX9_removePoint 4 RX9 1 7 162 0 [0, 1, 2] (wM_removePoint (qM_removePoint)) := by
  refine XTo.run (B := BM_removePoint) (cut := xfind [(44, ([0, 1, 3], wM_removePoint_44 (qM_removePoint_44 LF)))]) kM_removePoint (xcuts_ok (List.forall_mem_cons.mpr ⟨tM_removePoint_44 LF, fun _ h => absurd h List.not_mem_nil⟩)) 60 (fun vs st h r hr => ?_)
  unfold wM_removePoint at hr
  split at hr
  · exact (eM_removePoint _ _ _ _).symm.trans hr
  · cases hr
def FM_removePoint : List Value → XH → XR := fun vs h => match vs with
  | [.ref a0, .int x1, .int x2] => qM_removePoint a0 x1 x2 h
  | _ => none
theorem SM_removePoint : XS yX9_removePoint cX9_removePoint 4 (some .int) (xrm 7 162) FM_removePoint := by
  refine XS.of (own := RX9) (by decide) rfl (rk := 1) rfl (tM_removePoint) (fun vs h r hr => ?_)
  unfold FM_removePoint at hr
  split at hr
  · exact ⟨rfl, Nat.le_of_ble_eq_true rfl, hr⟩
  · cases hr
-- LineDiagram$Line.turnRound()V
def rLn_turnRound : List (Nat × XRow) := [(0, (.aload_n 0, 1, 0, .null, [])),
  (1, (.getfield 22, 4, 22, .null, [])),
  (4, (.iconst 1, 5, 0, .int (1 : Int32), [])),
  (5, (.isub, 6, 0, .null, [])),
  (6, (.istore_n 1, 7, 1, .null, [])),
  (7, (.iconst 0, 8, 0, .int (0 : Int32), [])),
  (8, (.istore_n 2, 9, 2, .null, [])),
  (9, (.iload_n 2, 10, 2, .null, [])),
  (10, (.iload_n 1, 11, 1, .null, [])),
  (11, (.if_icmp .ge 66, 14, 77, .null, [])),
  (14, (.aload_n 0, 15, 0, .null, [])),
  (15, (.getfield 9, 18, 9, .null, [])),
  (18, (.iload_n 2, 19, 2, .null, [])),
  (19, (.iaload, 20, 0, .null, [])),
  (20, (.istore_n 3, 21, 3, .null, [])),
  (21, (.aload_n 0, 22, 0, .null, [])),
  (22, (.getfield 15, 25, 15, .null, [])),
  (25, (.iload_n 2, 26, 2, .null, [])),
  (26, (.iaload, 27, 0, .null, [])),
  (27, (.istore 4, 29, 4, .null, [])),
  (29, (.aload_n 0, 30, 0, .null, [])),
  (30, (.getfield 9, 33, 9, .null, [])),
  (33, (.iload_n 2, 34, 2, .null, [])),
  (34, (.aload_n 0, 35, 0, .null, [])),
  (35, (.getfield 9, 38, 9, .null, [])),
  (38, (.iload_n 1, 39, 1, .null, [])),
  (39, (.iaload, 40, 0, .null, [])),
  (40, (.iastore, 41, 0, .null, [])),
  (41, (.aload_n 0, 42, 0, .null, [])),
  (42, (.getfield 15, 45, 15, .null, [])),
  (45, (.iload_n 2, 46, 2, .null, [])),
  (46, (.aload_n 0, 47, 0, .null, [])),
  (47, (.getfield 15, 50, 15, .null, [])),
  (50, (.iload_n 1, 51, 1, .null, [])),
  (51, (.iaload, 52, 0, .null, [])),
  (52, (.iastore, 53, 0, .null, [])),
  (53, (.aload_n 0, 54, 0, .null, [])),
  (54, (.getfield 9, 57, 9, .null, [])),
  (57, (.iload_n 1, 58, 1, .null, [])),
  (58, (.iload_n 3, 59, 3, .null, [])),
  (59, (.iastore, 60, 0, .null, [])),
  (60, (.aload_n 0, 61, 0, .null, [])),
  (61, (.getfield 15, 64, 15, .null, [])),
  (64, (.iload_n 1, 65, 1, .null, [])),
  (65, (.iload 4, 67, 4, .null, [])),
  (67, (.iastore, 68, 0, .null, [])),
  (68, (.iinc 1 (-1), 71, 1, .int (-1 : Int32), [])),
  (71, (.iinc 2 1, 74, 2, .int (1 : Int32), [])),
  (74, (.goto (-65), 77, 9, .null, [])),
  (77, (.return_, 78, 0, .null, []))]
def mLn_turnRound : List (Nat × XM) := []
abbrev BLn_turnRound : XB := (rLn_turnRound, XFT_Ln, mLn_turnRound, 0, XST_Ln)
set_option maxRecDepth 100000 in
theorem kLn_turnRound : XOK BLn_turnRound cX3_turnRound 5 RX3 0 0 := xok_of (cps := []) (K := XKT_Ln) (by decide +kernel) XKT_Ln_ok (fun _ h => absurd h List.not_mem_nil) XFT_Ln_ok (fun _ h => absurd h List.not_mem_nil) XST_Ln_ok
def wLn_turnRound_9 (f : Nat → Int32 → Int32 → XH → XR) : List Value → List Value → XH → XR := fun vs st h => match vs, st with
  | [.ref a0, .int x1, .int x2], [] => f a0 x1 x2 h
  | _, _ => none
def wLn_turnRound (f : Nat → XH → XR) : List Value → List Value → XH → XR := fun vs st h => match vs, st with
  | [.ref a0], [] => f a0 h
  | _, _ => none
set_option maxRecDepth 100000 in
theorem eLn_turnRound_9_b (k9 : Nat → Int32 → Int32 → XH → XR) (a0 : Nat) (x1 : Int32) (x2 : Int32) (h : XH) : qLn_turnRound_9_b k9 a0 x1 x2 h = xrun BLn_turnRound (xfind [(9, ([0, 1, 2], wLn_turnRound_9 (k9)))]) 53 9 (List.zip [0, 1, 2] [.ref a0, .int x1, .int x2]) [] h := rfl
theorem tLn_turnRound_9_b {k9 : Nat → Int32 → Int32 → XH → XR} (hk9 : XTo cX3_turnRound 5 RX3 0 0 0 9 [0, 1, 2] (wLn_turnRound_9 k9)) : XTo cX3_turnRound 5 RX3 0 0 0 9 [0, 1, 2] (wLn_turnRound_9 (qLn_turnRound_9_b k9)) := by
  refine XTo.run (B := BLn_turnRound) (cut := xfind [(9, ([0, 1, 2], wLn_turnRound_9 (k9)))]) kLn_turnRound (xcuts_ok (List.forall_mem_cons.mpr ⟨hk9, fun _ h => absurd h List.not_mem_nil⟩)) 53 (fun vs st h r hr => ?_)
  unfold wLn_turnRound_9 at hr
  split at hr
  · exact (eLn_turnRound_9_b k9 _ _ _ _).symm.trans hr
  · cases hr
theorem tLn_turnRound_9 : ∀ n : Nat, XTo cX3_turnRound 5 RX3 0 0 0 9 [0, 1, 2] (wLn_turnRound_9 (qLn_turnRound_9 n)) := by
  intro n
  induction n with
  | zero =>
    refine XTo.none fun vs st h => ?_
    unfold wLn_turnRound_9
    split <;> rfl
  | succ n ih => exact tLn_turnRound_9_b  ih
set_option maxRecDepth 100000 in
theorem eLn_turnRound (a0 : Nat) (h : XH) : qLn_turnRound a0 h = xrun BLn_turnRound (xfind [(9, ([0, 1, 2], wLn_turnRound_9 (qLn_turnRound_9 LF)))]) 53 0 (List.zip [0] [.ref a0]) [] h := rfl
theorem tLn_turnRound : XTo cX3_turnRound 5 RX3 0 0 0 0 [0] (wLn_turnRound (qLn_turnRound)) := by
  refine XTo.run (B := BLn_turnRound) (cut := xfind [(9, ([0, 1, 2], wLn_turnRound_9 (qLn_turnRound_9 LF)))]) kLn_turnRound (xcuts_ok (List.forall_mem_cons.mpr ⟨tLn_turnRound_9 LF, fun _ h => absurd h List.not_mem_nil⟩)) 53 (fun vs st h r hr => ?_)
  unfold wLn_turnRound at hr
  split at hr
  · exact (eLn_turnRound _ _).symm.trans hr
  · cases hr
def FLn_turnRound : List Value → XH → XR := fun vs h => match vs with
  | [.ref a0] => qLn_turnRound a0 h
  | _ => none
theorem SLn_turnRound : XS yX3_turnRound cX3_turnRound 5 none (xrm 0 0) FLn_turnRound := by
  refine XS.of (own := RX3) (by decide) rfl (rk := 0) rfl (tLn_turnRound) (fun vs h r hr => ?_)
  unfold FLn_turnRound at hr
  split at hr
  · exact ⟨rfl, Nat.le_of_ble_eq_true rfl, hr⟩
  · cases hr
-- LineDiagram.reverse(I)I
def rD_reverse : List (Nat × XRow) := [(0, (.aload_n 0, 1, 0, .null, [])),
  (1, (.iload_n 1, 2, 1, .null, [])),
  (2, (.invokevirtual 115, 5, 115, .null, [])),
  (5, (.ifCond .ne 5, 8, 10, .null, [])),
  (8, (.iconst (-1), 9, 0, .int (-1 : Int32), [])),
  (9, (.ireturn, 10, 0, .null, [])),
  (10, (.aload_n 0, 11, 0, .null, [])),
  (11, (.getfield 68, 14, 68, .null, [])),
  (14, (.aload_n 0, 15, 0, .null, [])),
  (15, (.getfield 29, 18, 29, .null, [])),
  (18, (.getfield 123, 21, 123, .null, [])),
  (21, (.iload_n 1, 22, 1, .null, [])),
  (22, (.aaload, 23, 0, .null, [])),
  (23, (.invokevirtual 130, 26, 130, .null, [])),
  (26, (.aload_n 0, 27, 0, .null, [])),
  (27, (.getfield 68, 30, 68, .null, [])),
  (30, (.invokevirtual 142, 33, 142, .null, [])),
  (33, (.aload_n 0, 34, 0, .null, [])),
  (34, (.iload_n 1, 35, 1, .null, [])),
  (35, (.invokevirtual 111, 38, 111, .null, [])),
  (38, (.ireturn, 39, 0, .null, []))]
def mD_reverse : List (Nat × XM) := [(111, (2, 1, some 8, FD_change)), (115, (2, 1, some 8, FD_isLine)), (130, (2, 0, some 3, FLn_copyFrom)), (142, (1, 0, some 3, FLn_turnRound))]
abbrev BD_reverse : XB := (rD_reverse, XFT_D, mD_reverse, 1, XST_D)
set_option maxRecDepth 100000 in
theorem kD_reverse : XOK BD_reverse cX8_reverse 2 RX8 6 150 := xok_of (cps := []) (K := XKT_D) (by decide +kernel) XKT_D_ok (fun _ h => absurd h List.not_mem_nil) XFT_D_ok (List.forall_mem_cons.mpr ⟨⟨_, _, _, _, _, _, _, SD_change, rfl, rfl, Nat.le_of_ble_eq_true rfl, Nat.le_of_ble_eq_true rfl, cdD_change, lkD_111, imD_change, slD_change, inD_change, pmD_change⟩, List.forall_mem_cons.mpr ⟨⟨_, _, _, _, _, _, _, SD_isLine, rfl, rfl, Nat.le_of_ble_eq_true rfl, Nat.le_of_ble_eq_true rfl, cdD_isLine, lkD_115, imD_isLine, slD_isLine, inD_isLine, pmD_isLine⟩, List.forall_mem_cons.mpr ⟨⟨_, _, _, _, _, _, _, SLn_copyFrom, rfl, rfl, Nat.le_of_ble_eq_true rfl, Nat.le_of_ble_eq_true rfl, cdLn_copyFrom, lkD_130, imLn_copyFrom, slLn_copyFrom, inLn_copyFrom, pmLn_copyFrom⟩, List.forall_mem_cons.mpr ⟨⟨_, _, _, _, _, _, _, SLn_turnRound, rfl, rfl, Nat.le_of_ble_eq_true rfl, Nat.le_of_ble_eq_true rfl, cdLn_turnRound, lkD_142, imLn_turnRound, slLn_turnRound, inLn_turnRound, pmLn_turnRound⟩, fun _ h => absurd h List.not_mem_nil⟩⟩⟩⟩) XST_D_ok
def wD_reverse (f : Nat → Int32 → XH → XR) : List Value → List Value → XH → XR := fun vs st h => match vs, st with
  | [.ref a0, .int x1], [] => f a0 x1 h
  | _, _ => none
set_option maxRecDepth 100000 in
theorem eD_reverse (a0 : Nat) (x1 : Int32) (h : XH) : qD_reverse a0 x1 h = xrun BD_reverse (xfind []) 24 0 (List.zip [0, 1] [.ref a0, .int x1]) [] h := rfl
theorem tD_reverse : XTo cX8_reverse 2 RX8 1 6 150 0 [0, 1] (wD_reverse (qD_reverse)) := by
  refine XTo.run (B := BD_reverse) (cut := xfind []) kD_reverse (xcuts_ok (fun _ h => absurd h List.not_mem_nil)) 24 (fun vs st h r hr => ?_)
  unfold wD_reverse at hr
  split at hr
  · exact (eD_reverse _ _ _).symm.trans hr
  · cases hr
def FD_reverse : List Value → XH → XR := fun vs h => match vs with
  | [.ref a0, .int x1] => qD_reverse a0 x1 h
  | _ => none
theorem SD_reverse : XS yX8_reverse cX8_reverse 2 (some .int) (xrm 6 150) FD_reverse := by
  refine XS.of (own := RX8) (by decide) rfl (rk := 1) rfl (tD_reverse) (fun vs h r hr => ?_)
  unfold FD_reverse at hr
  split at hr
  · exact ⟨rfl, Nat.le_of_ble_eq_true rfl, hr⟩
  · cases hr
-- LineDiagramModel.reverse(I)I
def rM_reverse : List (Nat × XRow) := [(0, (.aload_n 0, 1, 0, .null, [])),
  (1, (.iload_n 1, 2, 1, .null, [])),
  (2, (.invokevirtual 103, 5, 103, .null, [])),
  (5, (.ifCond .ne 5, 8, 10, .null, [])),
  (8, (.iconst (-1), 9, 0, .int (-1 : Int32), [])),
  (9, (.ireturn, 10, 0, .null, [])),
  (10, (.aload_n 0, 11, 0, .null, [])),
  (11, (.invokevirtual 352, 14, 352, .null, [])),
  (14, (.aload_n 0, 15, 0, .null, [])),
  (15, (.iload_n 1, 16, 1, .null, [])),
  (16, (.iconst 2, 17, 0, .int (2 : Int32), [])),
  (17, (.invokevirtual 88, 20, 88, .null, [])),
  (20, (.iconst 1, 21, 0, .int (1 : Int32), [])),
  (21, (.isub, 22, 0, .null, [])),
  (22, (.istore_n 2, 23, 2, .null, [])),
  (23, (.iconst 0, 24, 0, .int (0 : Int32), [])),
  (24, (.istore_n 3, 25, 3, .null, [])),
  (25, (.iload_n 3, 26, 3, .null, [])),
  (26, (.iload_n 2, 27, 2, .null, [])),
  (27, (.iload_n 3, 28, 3, .null, [])),
  (28, (.isub, 29, 0, .null, [])),
  (29, (.if_icmp .ge 59, 32, 88, .null, [])),
  (32, (.aload_n 0, 33, 0, .null, [])),
  (33, (.iload_n 1, 34, 1, .null, [])),
  (34, (.iload_n 3, 35, 3, .null, [])),
  (35, (.invokevirtual 120, 38, 120, .null, [])),
  (38, (.istore 4, 40, 4, .null, [])),
  (40, (.aload_n 0, 41, 0, .null, [])),
  (41, (.iload_n 1, 42, 1, .null, [])),
  (42, (.iload_n 3, 43, 3, .null, [])),
  (43, (.invokevirtual 123, 46, 123, .null, [])),
  (46, (.istore 5, 48, 5, .null, [])),
  (48, (.aload_n 0, 49, 0, .null, [])),
  (49, (.iload_n 1, 50, 1, .null, [])),
  (50, (.iload_n 3, 51, 3, .null, [])),
  (51, (.aload_n 0, 52, 0, .null, [])),
  (52, (.iload_n 1, 53, 1, .null, [])),
  (53, (.iload_n 2, 54, 2, .null, [])),
  (54, (.iload_n 3, 55, 3, .null, [])),
  (55, (.isub, 56, 0, .null, [])),
  (56, (.invokevirtual 120, 59, 120, .null, [])),
  (59, (.aload_n 0, 60, 0, .null, [])),
  (60, (.iload_n 1, 61, 1, .null, [])),
  (61, (.iload_n 2, 62, 2, .null, [])),
  (62, (.iload_n 3, 63, 3, .null, [])),
  (63, (.isub, 64, 0, .null, [])),
  (64, (.invokevirtual 123, 67, 123, .null, [])),
  (67, (.invokevirtual 355, 70, 355, .null, [])),
  (70, (.aload_n 0, 71, 0, .null, [])),
  (71, (.iload_n 1, 72, 1, .null, [])),
  (72, (.iload_n 2, 73, 2, .null, [])),
  (73, (.iload_n 3, 74, 3, .null, [])),
  (74, (.isub, 75, 0, .null, [])),
  (75, (.iload 4, 77, 4, .null, [])),
  (77, (.iload 5, 79, 5, .null, [])),
  (79, (.invokevirtual 355, 82, 355, .null, [])),
  (82, (.iinc 3 1, 85, 3, .int (1 : Int32), [])),
  (85, (.goto (-60), 88, 25, .null, [])),
  (88, (.aload_n 0, 89, 0, .null, [])),
  (89, (.iload_n 1, 90, 1, .null, [])),
  (90, (.invokevirtual 359, 93, 359, .null, [])),
  (93, (.ireturn, 94, 0, .null, []))]
def mM_reverse : List (Nat × XM) := [(88, (3, 1, some 9, FM_of)), (103, (2, 1, some 9, FM_isLine)), (120, (3, 1, some 9, FM_px)), (123, (3, 1, some 9, FM_py)), (352, (1, 0, some 9, FM_thinks)), (355, (5, 0, some 9, FM_putsPoint)), (359, (2, 1, some 9, FM_settles))]
abbrev BM_reverse : XB := (rM_reverse, XFT_M, mM_reverse, 1, XST_M)
set_option maxRecDepth 100000 in
theorem kM_reverse : XOK BM_reverse cX9_reverse 6 RX9 7 162 := xok_of (cps := []) (K := XKT_M) (by decide +kernel) XKT_M_ok (fun _ h => absurd h List.not_mem_nil) XFT_M_ok (List.forall_mem_cons.mpr ⟨⟨_, _, _, _, _, _, _, SM_of, rfl, rfl, Nat.le_of_ble_eq_true rfl, Nat.le_of_ble_eq_true rfl, cdM_of, lkM_88, imM_of, slM_of, inM_of, pmM_of⟩, List.forall_mem_cons.mpr ⟨⟨_, _, _, _, _, _, _, SM_isLine, rfl, rfl, Nat.le_of_ble_eq_true rfl, Nat.le_of_ble_eq_true rfl, cdM_isLine, lkM_103, imM_isLine, slM_isLine, inM_isLine, pmM_isLine⟩, List.forall_mem_cons.mpr ⟨⟨_, _, _, _, _, _, _, SM_px, rfl, rfl, Nat.le_of_ble_eq_true rfl, Nat.le_of_ble_eq_true rfl, cdM_px, lkM_120, imM_px, slM_px, inM_px, pmM_px⟩, List.forall_mem_cons.mpr ⟨⟨_, _, _, _, _, _, _, SM_py, rfl, rfl, Nat.le_of_ble_eq_true rfl, Nat.le_of_ble_eq_true rfl, cdM_py, lkM_123, imM_py, slM_py, inM_py, pmM_py⟩, List.forall_mem_cons.mpr ⟨⟨_, _, _, _, _, _, _, SM_thinks, rfl, rfl, Nat.le_of_ble_eq_true rfl, Nat.le_of_ble_eq_true rfl, cdM_thinks, lkM_352, imM_thinks, slM_thinks, inM_thinks, pmM_thinks⟩, List.forall_mem_cons.mpr ⟨⟨_, _, _, _, _, _, _, SM_putsPoint, rfl, rfl, Nat.le_of_ble_eq_true rfl, Nat.le_of_ble_eq_true rfl, cdM_putsPoint, lkM_355, imM_putsPoint, slM_putsPoint, inM_putsPoint, pmM_putsPoint⟩, List.forall_mem_cons.mpr ⟨⟨_, _, _, _, _, _, _, SM_settles, rfl, rfl, Nat.le_of_ble_eq_true rfl, Nat.le_of_ble_eq_true rfl, cdM_settles, lkM_359, imM_settles, slM_settles, inM_settles, pmM_settles⟩, fun _ h => absurd h List.not_mem_nil⟩⟩⟩⟩⟩⟩⟩) XST_M_ok
def wM_reverse_88 (f : Nat → Int32 → XH → XR) : List Value → List Value → XH → XR := fun vs st h => match vs, st with
  | [.ref a0, .int x1], [] => f a0 x1 h
  | _, _ => none
def wM_reverse_25 (f : Nat → Int32 → Int32 → Int32 → XH → XR) : List Value → List Value → XH → XR := fun vs st h => match vs, st with
  | [.ref a0, .int x1, .int x2, .int x3], [] => f a0 x1 x2 x3 h
  | _, _ => none
def wM_reverse (f : Nat → Int32 → XH → XR) : List Value → List Value → XH → XR := fun vs st h => match vs, st with
  | [.ref a0, .int x1], [] => f a0 x1 h
  | _, _ => none
set_option maxRecDepth 100000 in
theorem eM_reverse_88 (a0 : Nat) (x1 : Int32) (h : XH) : qM_reverse_88 a0 x1 h = xrun BM_reverse (xfind []) 65 88 (List.zip [0, 1] [.ref a0, .int x1]) [] h := rfl
theorem tM_reverse_88 : XTo cX9_reverse 6 RX9 1 7 162 88 [0, 1] (wM_reverse_88 (qM_reverse_88)) := by
  refine XTo.run (B := BM_reverse) (cut := xfind []) kM_reverse (xcuts_ok (fun _ h => absurd h List.not_mem_nil)) 65 (fun vs st h r hr => ?_)
  unfold wM_reverse_88 at hr
  split at hr
  · exact (eM_reverse_88 _ _ _).symm.trans hr
  · cases hr
set_option maxRecDepth 100000 in
theorem eM_reverse_25_b (k25 : Nat → Int32 → Int32 → Int32 → XH → XR) (a0 : Nat) (x1 : Int32) (x2 : Int32) (x3 : Int32) (h : XH) : qM_reverse_25_b k25 a0 x1 x2 x3 h = xrun BM_reverse (xfind [(25, ([0, 1, 2, 3], wM_reverse_25 (k25))), (88, ([0, 1], wM_reverse_88 (qM_reverse_88)))]) 65 25 (List.zip [0, 1, 2, 3] [.ref a0, .int x1, .int x2, .int x3]) [] h := rfl
theorem tM_reverse_25_b {k25 : Nat → Int32 → Int32 → Int32 → XH → XR} (hk25 : XTo cX9_reverse 6 RX9 1 7 162 25 [0, 1, 2, 3] (wM_reverse_25 k25)) : XTo cX9_reverse 6 RX9 1 7 162 25 [0, 1, 2, 3] (wM_reverse_25 (qM_reverse_25_b k25)) := by
  refine XTo.run (B := BM_reverse) (cut := xfind [(25, ([0, 1, 2, 3], wM_reverse_25 (k25))), (88, ([0, 1], wM_reverse_88 (qM_reverse_88)))]) kM_reverse (xcuts_ok (List.forall_mem_cons.mpr ⟨hk25, List.forall_mem_cons.mpr ⟨tM_reverse_88, fun _ h => absurd h List.not_mem_nil⟩⟩)) 65 (fun vs st h r hr => ?_)
  unfold wM_reverse_25 at hr
  split at hr
  · exact (eM_reverse_25_b k25 _ _ _ _ _).symm.trans hr
  · cases hr
theorem tM_reverse_25 : ∀ n : Nat, XTo cX9_reverse 6 RX9 1 7 162 25 [0, 1, 2, 3] (wM_reverse_25 (qM_reverse_25 n)) := by
  intro n
  induction n with
  | zero =>
    refine XTo.none fun vs st h => ?_
    unfold wM_reverse_25
    split <;> rfl
  | succ n ih => exact tM_reverse_25_b  ih
set_option maxRecDepth 100000 in
theorem eM_reverse (a0 : Nat) (x1 : Int32) (h : XH) : qM_reverse a0 x1 h = xrun BM_reverse (xfind [(25, ([0, 1, 2, 3], wM_reverse_25 (qM_reverse_25 LF)))]) 65 0 (List.zip [0, 1] [.ref a0, .int x1]) [] h := rfl
theorem tM_reverse : XTo cX9_reverse 6 RX9 1 7 162 0 [0, 1] (wM_reverse (qM_reverse)) := by
  refine XTo.run (B := BM_reverse) (cut := xfind [(25, ([0, 1, 2, 3], wM_reverse_25 (qM_reverse_25 LF)))]) kM_reverse (xcuts_ok (List.forall_mem_cons.mpr ⟨tM_reverse_25 LF, fun _ h => absurd h List.not_mem_nil⟩)) 65 (fun vs st h r hr => ?_)
  unfold wM_reverse at hr
  split at hr
  · exact (eM_reverse _ _ _).symm.trans hr
  · cases hr
def FM_reverse : List Value → XH → XR := fun vs h => match vs with
  | [.ref a0, .int x1] => qM_reverse a0 x1 h
  | _ => none
theorem SM_reverse : XS yX9_reverse cX9_reverse 6 (some .int) (xrm 7 162) FM_reverse := by
  refine XS.of (own := RX9) (by decide) rfl (rk := 1) rfl (tM_reverse) (fun vs h r hr => ?_)
  unfold FM_reverse at hr
  split at hr
  · exact ⟨rfl, Nat.le_of_ble_eq_true rfl, hr⟩
  · cases hr
-- LineDiagram.setStops(II)I
def rD_setStops : List (Nat × XRow) := [(0, (.aload_n 0, 1, 0, .null, [])),
  (1, (.iload_n 1, 2, 1, .null, [])),
  (2, (.invokevirtual 115, 5, 115, .null, [])),
  (5, (.ifCond .eq 14, 8, 19, .null, [])),
  (8, (.iload_n 2, 9, 2, .null, [])),
  (9, (.iconst 2, 10, 0, .int (2 : Int32), [])),
  (10, (.if_icmp .lt 9, 13, 19, .null, [])),
  (13, (.iload_n 2, 14, 2, .null, [])),
  (14, (.bipush 20, 16, 0, .int (20 : Int32), [])),
  (16, (.if_icmp .le 5, 19, 21, .null, [])),
  (19, (.iconst (-1), 20, 0, .int (-1 : Int32), [])),
  (20, (.ireturn, 21, 0, .null, [])),
  (21, (.aload_n 0, 22, 0, .null, [])),
  (22, (.getfield 29, 25, 29, .null, [])),
  (25, (.getfield 123, 28, 123, .null, [])),
  (28, (.iload_n 1, 29, 1, .null, [])),
  (29, (.aaload, 30, 0, .null, [])),
  (30, (.getfield 145, 33, 145, .null, [])),
  (33, (.iload_n 2, 34, 2, .null, [])),
  (34, (.if_icmp .ne 6, 37, 40, .null, [])),
  (37, (.bipush (-2), 39, 0, .int (-2 : Int32), [])),
  (39, (.ireturn, 40, 0, .null, [])),
  (40, (.aload_n 0, 41, 0, .null, [])),
  (41, (.getfield 68, 44, 68, .null, [])),
  (44, (.aload_n 0, 45, 0, .null, [])),
  (45, (.getfield 29, 48, 29, .null, [])),
  (48, (.getfield 123, 51, 123, .null, [])),
  (51, (.iload_n 1, 52, 1, .null, [])),
  (52, (.aaload, 53, 0, .null, [])),
  (53, (.invokevirtual 130, 56, 130, .null, [])),
  (56, (.aload_n 0, 57, 0, .null, [])),
  (57, (.getfield 68, 60, 68, .null, [])),
  (60, (.iload_n 2, 61, 2, .null, [])),
  (61, (.putfield 145, 64, 145, .null, [])),
  (64, (.aload_n 0, 65, 0, .null, [])),
  (65, (.iload_n 1, 66, 1, .null, [])),
  (66, (.invokevirtual 111, 69, 111, .null, [])),
  (69, (.ireturn, 70, 0, .null, []))]
def mD_setStops : List (Nat × XM) := [(111, (2, 1, some 8, FD_change)), (115, (2, 1, some 8, FD_isLine)), (130, (2, 0, some 3, FLn_copyFrom))]
abbrev BD_setStops : XB := (rD_setStops, XFT_D, mD_setStops, 1, XST_D)
set_option maxRecDepth 100000 in
theorem kD_setStops : XOK BD_setStops cX8_setStops 3 RX8 6 150 := xok_of (cps := []) (K := XKT_D) (by decide +kernel) XKT_D_ok (fun _ h => absurd h List.not_mem_nil) XFT_D_ok (List.forall_mem_cons.mpr ⟨⟨_, _, _, _, _, _, _, SD_change, rfl, rfl, Nat.le_of_ble_eq_true rfl, Nat.le_of_ble_eq_true rfl, cdD_change, lkD_111, imD_change, slD_change, inD_change, pmD_change⟩, List.forall_mem_cons.mpr ⟨⟨_, _, _, _, _, _, _, SD_isLine, rfl, rfl, Nat.le_of_ble_eq_true rfl, Nat.le_of_ble_eq_true rfl, cdD_isLine, lkD_115, imD_isLine, slD_isLine, inD_isLine, pmD_isLine⟩, List.forall_mem_cons.mpr ⟨⟨_, _, _, _, _, _, _, SLn_copyFrom, rfl, rfl, Nat.le_of_ble_eq_true rfl, Nat.le_of_ble_eq_true rfl, cdLn_copyFrom, lkD_130, imLn_copyFrom, slLn_copyFrom, inLn_copyFrom, pmLn_copyFrom⟩, fun _ h => absurd h List.not_mem_nil⟩⟩⟩) XST_D_ok
def wD_setStops (f : Nat → Int32 → Int32 → XH → XR) : List Value → List Value → XH → XR := fun vs st h => match vs, st with
  | [.ref a0, .int x1, .int x2], [] => f a0 x1 x2 h
  | _, _ => none
set_option maxRecDepth 100000 in
theorem eD_setStops (a0 : Nat) (x1 : Int32) (x2 : Int32) (h : XH) : qD_setStops a0 x1 x2 h = xrun BD_setStops (xfind []) 41 0 (List.zip [0, 1, 2] [.ref a0, .int x1, .int x2]) [] h := rfl
theorem tD_setStops : XTo cX8_setStops 3 RX8 1 6 150 0 [0, 1, 2] (wD_setStops (qD_setStops)) := by
  refine XTo.run (B := BD_setStops) (cut := xfind []) kD_setStops (xcuts_ok (fun _ h => absurd h List.not_mem_nil)) 41 (fun vs st h r hr => ?_)
  unfold wD_setStops at hr
  split at hr
  · exact (eD_setStops _ _ _ _).symm.trans hr
  · cases hr
def FD_setStops : List Value → XH → XR := fun vs h => match vs with
  | [.ref a0, .int x1, .int x2] => qD_setStops a0 x1 x2 h
  | _ => none
theorem SD_setStops : XS yX8_setStops cX8_setStops 3 (some .int) (xrm 6 150) FD_setStops := by
  refine XS.of (own := RX8) (by decide) rfl (rk := 1) rfl (tD_setStops) (fun vs h r hr => ?_)
  unfold FD_setStops at hr
  split at hr
  · exact ⟨rfl, Nat.le_of_ble_eq_true rfl, hr⟩
  · cases hr
-- LineDiagramModel.becomes(III)I
def rM_becomes : List (Nat × XRow) := [(0, (.aload_n 0, 1, 0, .null, [])),
  (1, (.iload_n 1, 2, 1, .null, [])),
  (2, (.iload_n 2, 3, 2, .null, [])),
  (3, (.invokevirtual 88, 6, 88, .null, [])),
  (6, (.iload_n 3, 7, 3, .null, [])),
  (7, (.if_icmp .ne 6, 10, 13, .null, [])),
  (10, (.bipush (-2), 12, 0, .int (-2 : Int32), [])),
  (12, (.ireturn, 13, 0, .null, [])),
  (13, (.aload_n 0, 14, 0, .null, [])),
  (14, (.invokevirtual 352, 17, 352, .null, [])),
  (17, (.aload_n 0, 18, 0, .null, [])),
  (18, (.iload_n 1, 19, 1, .null, [])),
  (19, (.iload_n 2, 20, 2, .null, [])),
  (20, (.iload_n 3, 21, 3, .null, [])),
  (21, (.invokevirtual 92, 24, 92, .null, [])),
  (24, (.aload_n 0, 25, 0, .null, [])),
  (25, (.iload_n 1, 26, 1, .null, [])),
  (26, (.invokevirtual 359, 29, 359, .null, [])),
  (29, (.ireturn, 30, 0, .null, []))]
def mM_becomes : List (Nat × XM) := [(88, (3, 1, some 9, FM_of)), (92, (4, 0, some 9, FM_puts)), (352, (1, 0, some 9, FM_thinks)), (359, (2, 1, some 9, FM_settles))]
abbrev BM_becomes : XB := (rM_becomes, XFT_M, mM_becomes, 1, XST_M)
set_option maxRecDepth 100000 in
theorem kM_becomes : XOK BM_becomes cX9_becomes 4 RX9 7 162 := xok_of (cps := []) (K := XKT_M) (by decide +kernel) XKT_M_ok (fun _ h => absurd h List.not_mem_nil) XFT_M_ok (List.forall_mem_cons.mpr ⟨⟨_, _, _, _, _, _, _, SM_of, rfl, rfl, Nat.le_of_ble_eq_true rfl, Nat.le_of_ble_eq_true rfl, cdM_of, lkM_88, imM_of, slM_of, inM_of, pmM_of⟩, List.forall_mem_cons.mpr ⟨⟨_, _, _, _, _, _, _, SM_puts, rfl, rfl, Nat.le_of_ble_eq_true rfl, Nat.le_of_ble_eq_true rfl, cdM_puts, lkM_92, imM_puts, slM_puts, inM_puts, pmM_puts⟩, List.forall_mem_cons.mpr ⟨⟨_, _, _, _, _, _, _, SM_thinks, rfl, rfl, Nat.le_of_ble_eq_true rfl, Nat.le_of_ble_eq_true rfl, cdM_thinks, lkM_352, imM_thinks, slM_thinks, inM_thinks, pmM_thinks⟩, List.forall_mem_cons.mpr ⟨⟨_, _, _, _, _, _, _, SM_settles, rfl, rfl, Nat.le_of_ble_eq_true rfl, Nat.le_of_ble_eq_true rfl, cdM_settles, lkM_359, imM_settles, slM_settles, inM_settles, pmM_settles⟩, fun _ h => absurd h List.not_mem_nil⟩⟩⟩⟩) XST_M_ok
def wM_becomes (f : Nat → Int32 → Int32 → Int32 → XH → XR) : List Value → List Value → XH → XR := fun vs st h => match vs, st with
  | [.ref a0, .int x1, .int x2, .int x3], [] => f a0 x1 x2 x3 h
  | _, _ => none
set_option maxRecDepth 100000 in
theorem eM_becomes (a0 : Nat) (x1 : Int32) (x2 : Int32) (x3 : Int32) (h : XH) : qM_becomes a0 x1 x2 x3 h = xrun BM_becomes (xfind []) 22 0 (List.zip [0, 1, 2, 3] [.ref a0, .int x1, .int x2, .int x3]) [] h := rfl
theorem tM_becomes : XTo cX9_becomes 4 RX9 1 7 162 0 [0, 1, 2, 3] (wM_becomes (qM_becomes)) := by
  refine XTo.run (B := BM_becomes) (cut := xfind []) kM_becomes (xcuts_ok (fun _ h => absurd h List.not_mem_nil)) 22 (fun vs st h r hr => ?_)
  unfold wM_becomes at hr
  split at hr
  · exact (eM_becomes _ _ _ _ _).symm.trans hr
  · cases hr
def FM_becomes : List Value → XH → XR := fun vs h => match vs with
  | [.ref a0, .int x1, .int x2, .int x3] => qM_becomes a0 x1 x2 x3 h
  | _ => none
theorem SM_becomes : XS yX9_becomes cX9_becomes 4 (some .int) (xrm 7 162) FM_becomes := by
  refine XS.of (own := RX9) (by decide) rfl (rk := 1) rfl (tM_becomes) (fun vs h r hr => ?_)
  unfold FM_becomes at hr
  split at hr
  · exact ⟨rfl, Nat.le_of_ble_eq_true rfl, hr⟩
  · cases hr
-- LineDiagramModel.setStops(II)I
def rM_setStops : List (Nat × XRow) := [(0, (.aload_n 0, 1, 0, .null, [])),
  (1, (.iload_n 1, 2, 1, .null, [])),
  (2, (.invokevirtual 103, 5, 103, .null, [])),
  (5, (.ifCond .eq 27, 8, 32, .null, [])),
  (8, (.iload_n 2, 9, 2, .null, [])),
  (9, (.i2l, 10, 0, .null, [])),
  (10, (.ldc2_w 362, 13, 362, .long (2 : Int64), [])),
  (13, (.ldc2_w 364, 16, 364, .long (20 : Int64), [])),
  (16, (.invokestatic 96, 19, 96, .null, [])),
  (19, (.ifCond .eq 13, 22, 32, .null, [])),
  (22, (.aload_n 0, 23, 0, .null, [])),
  (23, (.iload_n 1, 24, 1, .null, [])),
  (24, (.iconst 1, 25, 0, .int (1 : Int32), [])),
  (25, (.iload_n 2, 26, 2, .null, [])),
  (26, (.invokevirtual 366, 29, 366, .null, [])),
  (29, (.goto 4, 32, 33, .null, [])),
  (32, (.iconst (-1), 33, 0, .int (-1 : Int32), [])),
  (33, (.ireturn, 34, 0, .null, []))]
def mM_setStops : List (Nat × XM) := [(96, (3, 1, none, FM_in)), (103, (2, 1, some 9, FM_isLine)), (366, (4, 1, some 9, FM_becomes))]
abbrev BM_setStops : XB := (rM_setStops, XFT_M, mM_setStops, 1, XST_M)
set_option maxRecDepth 100000 in
theorem kM_setStops : XOK BM_setStops cX9_setStops 3 RX9 8 185 := xok_of (cps := []) (K := XKT_M) (by decide +kernel) XKT_M_ok (fun _ h => absurd h List.not_mem_nil) XFT_M_ok (List.forall_mem_cons.mpr ⟨⟨_, _, _, _, _, _, SM_in, Nat.le_of_ble_eq_true rfl, Nat.le_of_ble_eq_true rfl, cdM_in, lkM_96, imM_in, inM_in, pmM_in⟩, List.forall_mem_cons.mpr ⟨⟨_, _, _, _, _, _, _, SM_isLine, rfl, rfl, Nat.le_of_ble_eq_true rfl, Nat.le_of_ble_eq_true rfl, cdM_isLine, lkM_103, imM_isLine, slM_isLine, inM_isLine, pmM_isLine⟩, List.forall_mem_cons.mpr ⟨⟨_, _, _, _, _, _, _, SM_becomes, rfl, rfl, Nat.le_of_ble_eq_true rfl, Nat.le_of_ble_eq_true rfl, cdM_becomes, lkM_366, imM_becomes, slM_becomes, inM_becomes, pmM_becomes⟩, fun _ h => absurd h List.not_mem_nil⟩⟩⟩) XST_M_ok
def wM_setStops (f : Nat → Int32 → Int32 → XH → XR) : List Value → List Value → XH → XR := fun vs st h => match vs, st with
  | [.ref a0, .int x1, .int x2], [] => f a0 x1 x2 h
  | _, _ => none
set_option maxRecDepth 100000 in
theorem eM_setStops (a0 : Nat) (x1 : Int32) (x2 : Int32) (h : XH) : qM_setStops a0 x1 x2 h = xrun BM_setStops (xfind []) 21 0 (List.zip [0, 1, 2] [.ref a0, .int x1, .int x2]) [] h := rfl
theorem tM_setStops : XTo cX9_setStops 3 RX9 1 8 185 0 [0, 1, 2] (wM_setStops (qM_setStops)) := by
  refine XTo.run (B := BM_setStops) (cut := xfind []) kM_setStops (xcuts_ok (fun _ h => absurd h List.not_mem_nil)) 21 (fun vs st h r hr => ?_)
  unfold wM_setStops at hr
  split at hr
  · exact (eM_setStops _ _ _ _).symm.trans hr
  · cases hr
def FM_setStops : List Value → XH → XR := fun vs h => match vs with
  | [.ref a0, .int x1, .int x2] => qM_setStops a0 x1 x2 h
  | _ => none
theorem SM_setStops : XS yX9_setStops cX9_setStops 3 (some .int) (xrm 8 185) FM_setStops := by
  refine XS.of (own := RX9) (by decide) rfl (rk := 1) rfl (tM_setStops) (fun vs h r hr => ?_)
  unfold FM_setStops at hr
  split at hr
  · exact ⟨rfl, Nat.le_of_ble_eq_true rfl, hr⟩
  · cases hr
-- LineDiagram.setSize(II)I
def rD_setSize : List (Nat × XRow) := [(0, (.aload_n 0, 1, 0, .null, [])),
  (1, (.iload_n 1, 2, 1, .null, [])),
  (2, (.invokevirtual 115, 5, 115, .null, [])),
  (5, (.ifCond .eq 14, 8, 19, .null, [])),
  (8, (.iload_n 2, 9, 2, .null, [])),
  (9, (.iconst 1, 10, 0, .int (1 : Int32), [])),
  (10, (.if_icmp .lt 9, 13, 19, .null, [])),
  (13, (.iload_n 2, 14, 2, .null, [])),
  (14, (.bipush 10, 16, 0, .int (10 : Int32), [])),
  (16, (.if_icmp .le 5, 19, 21, .null, [])),
  (19, (.iconst (-1), 20, 0, .int (-1 : Int32), [])),
  (20, (.ireturn, 21, 0, .null, [])),
  (21, (.aload_n 0, 22, 0, .null, [])),
  (22, (.getfield 29, 25, 29, .null, [])),
  (25, (.getfield 123, 28, 123, .null, [])),
  (28, (.iload_n 1, 29, 1, .null, [])),
  (29, (.aaload, 30, 0, .null, [])),
  (30, (.getfield 148, 33, 148, .null, [])),
  (33, (.iload_n 2, 34, 2, .null, [])),
  (34, (.if_icmp .ne 6, 37, 40, .null, [])),
  (37, (.bipush (-2), 39, 0, .int (-2 : Int32), [])),
  (39, (.ireturn, 40, 0, .null, [])),
  (40, (.aload_n 0, 41, 0, .null, [])),
  (41, (.getfield 68, 44, 68, .null, [])),
  (44, (.aload_n 0, 45, 0, .null, [])),
  (45, (.getfield 29, 48, 29, .null, [])),
  (48, (.getfield 123, 51, 123, .null, [])),
  (51, (.iload_n 1, 52, 1, .null, [])),
  (52, (.aaload, 53, 0, .null, [])),
  (53, (.invokevirtual 130, 56, 130, .null, [])),
  (56, (.aload_n 0, 57, 0, .null, [])),
  (57, (.getfield 68, 60, 68, .null, [])),
  (60, (.iload_n 2, 61, 2, .null, [])),
  (61, (.putfield 148, 64, 148, .null, [])),
  (64, (.aload_n 0, 65, 0, .null, [])),
  (65, (.iload_n 1, 66, 1, .null, [])),
  (66, (.invokevirtual 111, 69, 111, .null, [])),
  (69, (.ireturn, 70, 0, .null, []))]
def mD_setSize : List (Nat × XM) := [(111, (2, 1, some 8, FD_change)), (115, (2, 1, some 8, FD_isLine)), (130, (2, 0, some 3, FLn_copyFrom))]
abbrev BD_setSize : XB := (rD_setSize, XFT_D, mD_setSize, 1, XST_D)
set_option maxRecDepth 100000 in
theorem kD_setSize : XOK BD_setSize cX8_setSize 3 RX8 6 150 := xok_of (cps := []) (K := XKT_D) (by decide +kernel) XKT_D_ok (fun _ h => absurd h List.not_mem_nil) XFT_D_ok (List.forall_mem_cons.mpr ⟨⟨_, _, _, _, _, _, _, SD_change, rfl, rfl, Nat.le_of_ble_eq_true rfl, Nat.le_of_ble_eq_true rfl, cdD_change, lkD_111, imD_change, slD_change, inD_change, pmD_change⟩, List.forall_mem_cons.mpr ⟨⟨_, _, _, _, _, _, _, SD_isLine, rfl, rfl, Nat.le_of_ble_eq_true rfl, Nat.le_of_ble_eq_true rfl, cdD_isLine, lkD_115, imD_isLine, slD_isLine, inD_isLine, pmD_isLine⟩, List.forall_mem_cons.mpr ⟨⟨_, _, _, _, _, _, _, SLn_copyFrom, rfl, rfl, Nat.le_of_ble_eq_true rfl, Nat.le_of_ble_eq_true rfl, cdLn_copyFrom, lkD_130, imLn_copyFrom, slLn_copyFrom, inLn_copyFrom, pmLn_copyFrom⟩, fun _ h => absurd h List.not_mem_nil⟩⟩⟩) XST_D_ok
def wD_setSize (f : Nat → Int32 → Int32 → XH → XR) : List Value → List Value → XH → XR := fun vs st h => match vs, st with
  | [.ref a0, .int x1, .int x2], [] => f a0 x1 x2 h
  | _, _ => none
set_option maxRecDepth 100000 in
theorem eD_setSize (a0 : Nat) (x1 : Int32) (x2 : Int32) (h : XH) : qD_setSize a0 x1 x2 h = xrun BD_setSize (xfind []) 41 0 (List.zip [0, 1, 2] [.ref a0, .int x1, .int x2]) [] h := rfl
theorem tD_setSize : XTo cX8_setSize 3 RX8 1 6 150 0 [0, 1, 2] (wD_setSize (qD_setSize)) := by
  refine XTo.run (B := BD_setSize) (cut := xfind []) kD_setSize (xcuts_ok (fun _ h => absurd h List.not_mem_nil)) 41 (fun vs st h r hr => ?_)
  unfold wD_setSize at hr
  split at hr
  · exact (eD_setSize _ _ _ _).symm.trans hr
  · cases hr
def FD_setSize : List Value → XH → XR := fun vs h => match vs with
  | [.ref a0, .int x1, .int x2] => qD_setSize a0 x1 x2 h
  | _ => none
theorem SD_setSize : XS yX8_setSize cX8_setSize 3 (some .int) (xrm 6 150) FD_setSize := by
  refine XS.of (own := RX8) (by decide) rfl (rk := 1) rfl (tD_setSize) (fun vs h r hr => ?_)
  unfold FD_setSize at hr
  split at hr
  · exact ⟨rfl, Nat.le_of_ble_eq_true rfl, hr⟩
  · cases hr
