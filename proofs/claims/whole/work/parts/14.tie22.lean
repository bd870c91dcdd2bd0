-- LineDiagramModel.changesOn(I)I
def rM_changesOn : List (Nat × XRow) := [(0, (.iload_n 1, 1, 1, .null, [])),
  (1, (.istore_n 2, 2, 2, .null, [])),
  (2, (.iconst 0, 3, 0, .int (0 : Int32), [])),
  (3, (.istore_n 3, 4, 3, .null, [])),
  (4, (.iload_n 3, 5, 3, .null, [])),
  (5, (.sipush 1600, 8, 0, .int (1600 : Int32), [])),
  (8, (.if_icmp .ge 33, 11, 41, .null, [])),
  (11, (.iload_n 2, 12, 2, .null, [])),
  (12, (.aload_n 0, 13, 0, .null, [])),
  (13, (.getfield 52, 16, 52, .null, [])),
  (16, (.iload_n 3, 17, 3, .null, [])),
  (17, (.iaload, 18, 0, .null, [])),
  (18, (.iload_n 1, 19, 1, .null, [])),
  (19, (.iand, 20, 0, .null, [])),
  (20, (.ifCond .eq 12, 23, 32, .null, [])),
  (23, (.aload_n 0, 24, 0, .null, [])),
  (24, (.getfield 52, 27, 52, .null, [])),
  (27, (.iload_n 3, 28, 3, .null, [])),
  (28, (.iaload, 29, 0, .null, [])),
  (29, (.goto 4, 32, 33, .null, [])),
  (32, (.iconst 0, 33, 0, .int (0 : Int32), [])),
  (33, (.ior, 34, 0, .null, [])),
  (34, (.istore_n 2, 35, 2, .null, [])),
  (35, (.iinc 3 1, 38, 3, .int (1 : Int32), [])),
  (38, (.goto (-34), 41, 4, .null, [])),
  (41, (.iload_n 2, 42, 2, .null, [])),
  (42, (.ireturn, 43, 0, .null, []))]
def mM_changesOn : List (Nat × XM) := []
abbrev BM_changesOn : XB := (rM_changesOn, XFT_M, mM_changesOn, 1, XST_M)
set_option maxRecDepth 100000 in
theorem kM_changesOn : XOK BM_changesOn cX9_changesOn 4 RX9 0 0 := xok_of (cps := []) (K := XKT_M) (by decide +kernel) XKT_M_ok (fun _ h => absurd h List.not_mem_nil) XFT_M_ok (fun _ h => absurd h List.not_mem_nil) XST_M_ok
def wM_changesOn_4 (f : Nat → Int32 → Int32 → Int32 → XH → XR) : List Value → List Value → XH → XR := fun vs st h => match vs, st with
  | [.ref a0, .int x1, .int x2, .int x3], [] => f a0 x1 x2 x3 h
  | _, _ => none
def wM_changesOn (f : Nat → Int32 → XH → XR) : List Value → List Value → XH → XR := fun vs st h => match vs, st with
  | [.ref a0, .int x1], [] => f a0 x1 h
  | _, _ => none
set_option maxRecDepth 100000 in
theorem eM_changesOn_4_b (k4 : Nat → Int32 → Int32 → Int32 → XH → XR) (a0 : Nat) (x1 : Int32) (x2 : Int32) (x3 : Int32) (h : XH) : qM_changesOn_4_b k4 a0 x1 x2 x3 h = xrun BM_changesOn (xfind [(4, ([0, 1, 2, 3], wM_changesOn_4 (k4)))]) 30 4 (List.zip [0, 1, 2, 3] [.ref a0, .int x1, .int x2, .int x3]) [] h := rfl
theorem tM_changesOn_4_b {k4 : Nat → Int32 → Int32 → Int32 → XH → XR} (hk4 : XTo cX9_changesOn 4 RX9 1 0 0 4 [0, 1, 2, 3] (wM_changesOn_4 k4)) : XTo cX9_changesOn 4 RX9 1 0 0 4 [0, 1, 2, 3] (wM_changesOn_4 (qM_changesOn_4_b k4)) := by
  refine XTo.run (B := BM_changesOn) (cut := xfind [(4, ([0, 1, 2, 3], wM_changesOn_4 (k4)))]) kM_changesOn (xcuts_ok (List.forall_mem_cons.mpr ⟨hk4, fun _ h => absurd h List.not_mem_nil⟩)) 30 (fun vs st h r hr => ?_)
  unfold wM_changesOn_4 at hr
  split at hr
  · exact (eM_changesOn_4_b k4 _ _ _ _ _).symm.trans hr
  · cases hr
theorem tM_changesOn_4 : ∀ n : Nat, XTo cX9_changesOn 4 RX9 1 0 0 4 [0, 1, 2, 3] (wM_changesOn_4 (qM_changesOn_4 n)) := by
  intro n
  induction n with
  | zero =>
    refine XTo.none fun vs st h => ?_
    unfold wM_changesOn_4
    split <;> rfl
  | succ n ih => exact tM_changesOn_4_b  ih
set_option maxRecDepth 100000 in
theorem eM_changesOn (a0 : Nat) (x1 : Int32) (h : XH) : qM_changesOn a0 x1 h = xrun BM_changesOn (xfind [(4, ([0, 1, 2, 3], wM_changesOn_4 (qM_changesOn_4 LF)))]) 30 0 (List.zip [0, 1] [.ref a0, .int x1]) [] h := rfl
theorem tM_changesOn : XTo cX9_changesOn 4 RX9 1 0 0 0 [0, 1] (wM_changesOn (qM_changesOn)) := by
  refine XTo.run (B := BM_changesOn) (cut := xfind [(4, ([0, 1, 2, 3], wM_changesOn_4 (qM_changesOn_4 LF)))]) kM_changesOn (xcuts_ok (List.forall_mem_cons.mpr ⟨tM_changesOn_4 LF, fun _ h => absurd h List.not_mem_nil⟩)) 30 (fun vs st h r hr => ?_)
  unfold wM_changesOn at hr
  split at hr
  · exact (eM_changesOn _ _ _).symm.trans hr
  · cases hr
def FM_changesOn : List Value → XH → XR := fun vs h => match vs with
  | [.ref a0, .int x1] => qM_changesOn a0 x1 h
  | _ => none
theorem SM_changesOn : XS yX9_changesOn cX9_changesOn 4 (some .int) (xrm 0 0) FM_changesOn := by
  refine XS.of (own := RX9) (by decide) rfl (rk := 1) rfl (tM_changesOn) (fun vs h r hr => ?_)
  unfold FM_changesOn at hr
  split at hr
  · exact ⟨rfl, Nat.le_of_ble_eq_true rfl, hr⟩
  · cases hr
-- LineDiagramModel.changes(IIII)I
def rM_changes : List (Nat × XRow) := [(0, (.aload_n 0, 1, 0, .null, [])),
  (1, (.iload_n 1, 2, 1, .null, [])),
  (2, (.iload_n 2, 3, 2, .null, [])),
  (3, (.invokevirtual 374, 6, 374, .null, [])),
  (6, (.ifCond .eq 13, 9, 19, .null, [])),
  (9, (.aload_n 0, 10, 0, .null, [])),
  (10, (.iload_n 3, 11, 3, .null, [])),
  (11, (.iload 4, 13, 4, .null, [])),
  (13, (.invokevirtual 374, 16, 374, .null, [])),
  (16, (.ifCond .ne 5, 19, 21, .null, [])),
  (19, (.iconst (-1), 20, 0, .int (-1 : Int32), [])),
  (20, (.ireturn, 21, 0, .null, [])),
  (21, (.aload_n 0, 22, 0, .null, [])),
  (22, (.invokevirtual 380, 25, 380, .null, [])),
  (25, (.aload_n 0, 26, 0, .null, [])),
  (26, (.getfield 52, 29, 52, .null, [])),
  (29, (.aload_n 0, 30, 0, .null, [])),
  (30, (.iload_n 1, 31, 1, .null, [])),
  (31, (.iload_n 2, 32, 2, .null, [])),
  (32, (.invokevirtual 151, 35, 151, .null, [])),
  (35, (.iaload, 36, 0, .null, [])),
  (36, (.istore 5, 38, 5, .null, [])),
  (38, (.aload_n 0, 39, 0, .null, [])),
  (39, (.getfield 52, 42, 52, .null, [])),
  (42, (.aload_n 0, 43, 0, .null, [])),
  (43, (.iload_n 3, 44, 3, .null, [])),
  (44, (.iload 4, 46, 4, .null, [])),
  (46, (.invokevirtual 151, 49, 151, .null, [])),
  (49, (.iaload, 50, 0, .null, [])),
  (50, (.istore 6, 52, 6, .null, [])),
  (52, (.iconst 0, 53, 0, .int (0 : Int32), [])),
  (53, (.istore 7, 55, 7, .null, [])),
  (55, (.iload 7, 57, 7, .null, [])),
  (57, (.bipush 8, 59, 0, .int (8 : Int32), [])),
  (59, (.if_icmp .ge 28, 62, 87, .null, [])),
  (62, (.iload 5, 64, 5, .null, [])),
  (64, (.iload 6, 66, 6, .null, [])),
  (66, (.iand, 67, 0, .null, [])),
  (67, (.ifCond .eq 6, 70, 73, .null, [])),
  (70, (.iload 7, 72, 7, .null, [])),
  (72, (.ireturn, 73, 0, .null, [])),
  (73, (.aload_n 0, 74, 0, .null, [])),
  (74, (.iload 5, 76, 5, .null, [])),
  (76, (.invokevirtual 460, 79, 460, .null, [])),
  (79, (.istore 5, 81, 5, .null, [])),
  (81, (.iinc 7 1, 84, 7, .int (1 : Int32), [])),
  (84, (.goto (-29), 87, 55, .null, [])),
  (87, (.bipush (-2), 89, 0, .int (-2 : Int32), [])),
  (89, (.ireturn, 90, 0, .null, []))]
def mM_changes : List (Nat × XM) := [(151, (3, 1, some 9, FM_cellOf)), (374, (3, 1, some 9, FM_isStation)), (380, (1, 0, some 9, FM_lays)), (460, (2, 1, some 9, FM_changesOn))]
abbrev BM_changes : XB := (rM_changes, XFT_M, mM_changes, 1, XST_M)
set_option maxRecDepth 100000 in
theorem kM_changes : XOK BM_changes cX9_changes 8 RX9 6 138 := xok_of (cps := []) (K := XKT_M) (by decide +kernel) XKT_M_ok (fun _ h => absurd h List.not_mem_nil) XFT_M_ok (List.forall_mem_cons.mpr ⟨⟨_, _, _, _, _, _, _, SM_cellOf, rfl, rfl, Nat.le_of_ble_eq_true rfl, Nat.le_of_ble_eq_true rfl, cdM_cellOf, lkM_151, imM_cellOf, slM_cellOf, inM_cellOf, pmM_cellOf⟩, List.forall_mem_cons.mpr ⟨⟨_, _, _, _, _, _, _, SM_isStation, rfl, rfl, Nat.le_of_ble_eq_true rfl, Nat.le_of_ble_eq_true rfl, cdM_isStation, lkM_374, imM_isStation, slM_isStation, inM_isStation, pmM_isStation⟩, List.forall_mem_cons.mpr ⟨⟨_, _, _, _, _, _, _, SM_lays, rfl, rfl, Nat.le_of_ble_eq_true rfl, Nat.le_of_ble_eq_true rfl, cdM_lays, lkM_380, imM_lays, slM_lays, inM_lays, pmM_lays⟩, List.forall_mem_cons.mpr ⟨⟨_, _, _, _, _, _, _, SM_changesOn, rfl, rfl, Nat.le_of_ble_eq_true rfl, Nat.le_of_ble_eq_true rfl, cdM_changesOn, lkM_460, imM_changesOn, slM_changesOn, inM_changesOn, pmM_changesOn⟩, fun _ h => absurd h List.not_mem_nil⟩⟩⟩⟩) XST_M_ok
def wM_changes_55 (f : Nat → Int32 → Int32 → Int32 → XH → XR) : List Value → List Value → XH → XR := fun vs st h => match vs, st with
  | [.ref a0, .int x5, .int x6, .int x7], [] => f a0 x5 x6 x7 h
  | _, _ => none
def wM_changes (f : Nat → Int32 → Int32 → Int32 → Int32 → XH → XR) : List Value → List Value → XH → XR := fun vs st h => match vs, st with
  | [.ref a0, .int x1, .int x2, .int x3, .int x4], [] => f a0 x1 x2 x3 x4 h
  | _, _ => none
set_option maxRecDepth 100000 in
theorem eM_changes_55_b (k55 : Nat → Int32 → Int32 → Int32 → XH → XR) (a0 : Nat) (x5 : Int32) (x6 : Int32) (x7 : Int32) (h : XH) : qM_changes_55_b k55 a0 x5 x6 x7 h = xrun BM_changes (xfind [(55, ([0, 5, 6, 7], wM_changes_55 (k55)))]) 52 55 (List.zip [0, 5, 6, 7] [.ref a0, .int x5, .int x6, .int x7]) [] h := rfl
theorem tM_changes_55_b {k55 : Nat → Int32 → Int32 → Int32 → XH → XR} (hk55 : XTo cX9_changes 8 RX9 1 6 138 55 [0, 5, 6, 7] (wM_changes_55 k55)) : XTo cX9_changes 8 RX9 1 6 138 55 [0, 5, 6, 7] (wM_changes_55 (qM_changes_55_b k55)) := by
  refine XTo.run (B := BM_changes) (cut := xfind [(55, ([0, 5, 6, 7], wM_changes_55 (k55)))]) kM_changes (xcuts_ok (List.forall_mem_cons.mpr ⟨hk55, fun _ h => absurd h List.not_mem_nil⟩)) 52 (fun vs st h r hr => ?_)
  unfold wM_changes_55 at hr
  split at hr
  · exact (eM_changes_55_b k55 _ _ _ _ _).symm.trans hr
  · cases hr
theorem tM_changes_55 : ∀ n : Nat, XTo cX9_changes 8 RX9 1 6 138 55 [0, 5, 6, 7] (wM_changes_55 (qM_changes_55 n)) := by
  intro n
  induction n with
  | zero =>
    refine XTo.none fun vs st h => ?_
    unfold wM_changes_55
    split <;> rfl
  | succ n ih => exact tM_changes_55_b  ih
set_option maxRecDepth 100000 in
theorem eM_changes (a0 : Nat) (x1 : Int32) (x2 : Int32) (x3 : Int32) (x4 : Int32) (h : XH) : qM_changes a0 x1 x2 x3 x4 h = xrun BM_changes (xfind [(55, ([0, 5, 6, 7], wM_changes_55 (qM_changes_55 LF)))]) 52 0 (List.zip [0, 1, 2, 3, 4] [.ref a0, .int x1, .int x2, .int x3, .int x4]) [] h := rfl
theorem tM_changes : XTo cX9_changes 8 RX9 1 6 138 0 [0, 1, 2, 3, 4] (wM_changes (qM_changes)) := by
  refine XTo.run (B := BM_changes) (cut := xfind [(55, ([0, 5, 6, 7], wM_changes_55 (qM_changes_55 LF)))]) kM_changes (xcuts_ok (List.forall_mem_cons.mpr ⟨tM_changes_55 LF, fun _ h => absurd h List.not_mem_nil⟩)) 52 (fun vs st h r hr => ?_)
  unfold wM_changes at hr
  split at hr
  · exact (eM_changes _ _ _ _ _ _).symm.trans hr
  · cases hr
def FM_changes : List Value → XH → XR := fun vs h => match vs with
  | [.ref a0, .int x1, .int x2, .int x3, .int x4] => qM_changes a0 x1 x2 x3 x4 h
  | _ => none
theorem SM_changes : XS yX9_changes cX9_changes 8 (some .int) (xrm 6 138) FM_changes := by
  refine XS.of (own := RX9) (by decide) rfl (rk := 1) rfl (tM_changes) (fun vs h r hr => ?_)
  unfold FM_changes at hr
  split at hr
  · exact ⟨rfl, Nat.le_of_ble_eq_true rfl, hr⟩
  · cases hr
-- LineDiagram.position(II)I
def rD_position : List (Nat × XRow) := [(0, (.aload_n 0, 1, 0, .null, [])),
  (1, (.iload_n 1, 2, 1, .null, [])),
  (2, (.iload_n 2, 3, 2, .null, [])),
  (3, (.invokevirtual 151, 6, 151, .null, [])),
  (6, (.ifCond .ne 5, 9, 11, .null, [])),
  (9, (.iconst (-1), 10, 0, .int (-1 : Int32), [])),
  (10, (.ireturn, 11, 0, .null, [])),
  (11, (.aload_n 0, 12, 0, .null, [])),
  (12, (.getfield 29, 15, 29, .null, [])),
  (15, (.getfield 161, 18, 161, .null, [])),
  (18, (.aload_n 0, 19, 0, .null, [])),
  (19, (.getfield 54, 22, 54, .null, [])),
  (22, (.iload_n 1, 23, 1, .null, [])),
  (23, (.iload_n 2, 24, 2, .null, [])),
  (24, (.invokevirtual 157, 27, 157, .null, [])),
  (27, (.invokevirtual 165, 30, 165, .null, [])),
  (30, (.ireturn, 31, 0, .null, []))]
def mD_position : List (Nat × XM) := [(151, (3, 1, some 8, FD_isStation)), (157, (3, 1, some 0, FB_stationCell)), (165, (2, 1, some 2, FLb_positionOf))]
abbrev BD_position : XB := (rD_position, XFT_D, mD_position, 1, XST_D)
set_option maxRecDepth 100000 in
theorem kD_position : XOK BD_position cX8_position 3 RX8 2 44 := xok_of (cps := []) (K := XKT_D) (by decide +kernel) XKT_D_ok (fun _ h => absurd h List.not_mem_nil) XFT_D_ok (List.forall_mem_cons.mpr ⟨⟨_, _, _, _, _, _, _, SD_isStation, rfl, rfl, Nat.le_of_ble_eq_true rfl, Nat.le_of_ble_eq_true rfl, cdD_isStation, lkD_151, imD_isStation, slD_isStation, inD_isStation, pmD_isStation⟩, List.forall_mem_cons.mpr ⟨⟨_, _, _, _, _, _, _, SB_stationCell, rfl, rfl, Nat.le_of_ble_eq_true rfl, Nat.le_of_ble_eq_true rfl, cdB_stationCell, lkD_157, imB_stationCell, slB_stationCell, inB_stationCell, pmB_stationCell⟩, List.forall_mem_cons.mpr ⟨⟨_, _, _, _, _, _, _, SLb_positionOf, rfl, rfl, Nat.le_of_ble_eq_true rfl, Nat.le_of_ble_eq_true rfl, cdLb_positionOf, lkD_165, imLb_positionOf, slLb_positionOf, inLb_positionOf, pmLb_positionOf⟩, fun _ h => absurd h List.not_mem_nil⟩⟩⟩) XST_D_ok
def wD_position (f : Nat → Int32 → Int32 → XH → XR) : List Value → List Value → XH → XR := fun vs st h => match vs, st with
  | [.ref a0, .int x1, .int x2], [] => f a0 x1 x2 h
  | _, _ => none
set_option maxRecDepth 100000 in
theorem eD_position (a0 : Nat) (x1 : Int32) (x2 : Int32) (h : XH) : qD_position a0 x1 x2 h = xrun BD_position (xfind []) 20 0 (List.zip [0, 1, 2] [.ref a0, .int x1, .int x2]) [] h := rfl
theorem tD_position : XTo cX8_position 3 RX8 1 2 44 0 [0, 1, 2] (wD_position (qD_position)) := by
  refine XTo.run (B := BD_position) (cut := xfind []) kD_position (xcuts_ok (fun _ h => absurd h List.not_mem_nil)) 20 (fun vs st h r hr => ?_)
  unfold wD_position at hr
  split at hr
  · exact (eD_position _ _ _ _).symm.trans hr
  · cases hr
def FD_position : List Value → XH → XR := fun vs h => match vs with
  | [.ref a0, .int x1, .int x2] => qD_position a0 x1 x2 h
  | _ => none
theorem SD_position : XS yX8_position cX8_position 3 (some .int) (xrm 2 44) FD_position := by
  refine XS.of (own := RX8) (by decide) rfl (rk := 1) rfl (tD_position) (fun vs h r hr => ?_)
  unfold FD_position at hr
  split at hr
  · exact ⟨rfl, Nat.le_of_ble_eq_true rfl, hr⟩
  · cases hr
-- LineDiagramModel.position(II)I
def rM_position : List (Nat × XRow) := [(0, (.aload_n 0, 1, 0, .null, [])),
  (1, (.iload_n 1, 2, 1, .null, [])),
  (2, (.iload_n 2, 3, 2, .null, [])),
  (3, (.invokevirtual 374, 6, 374, .null, [])),
  (6, (.ifCond .ne 5, 9, 11, .null, [])),
  (9, (.iconst (-1), 10, 0, .int (-1 : Int32), [])),
  (10, (.ireturn, 11, 0, .null, [])),
  (11, (.aload_n 0, 12, 0, .null, [])),
  (12, (.invokevirtual 380, 15, 380, .null, [])),
  (15, (.aload_n 0, 16, 0, .null, [])),
  (16, (.aload_n 0, 17, 0, .null, [])),
  (17, (.iload_n 1, 18, 1, .null, [])),
  (18, (.iload_n 2, 19, 2, .null, [])),
  (19, (.invokevirtual 151, 22, 151, .null, [])),
  (22, (.invokevirtual 187, 25, 187, .null, [])),
  (25, (.ireturn, 26, 0, .null, []))]
def mM_position : List (Nat × XM) := [(151, (3, 1, some 9, FM_cellOf)), (187, (2, 1, some 9, FM_labelOf)), (374, (3, 1, some 9, FM_isStation)), (380, (1, 0, some 9, FM_lays))]
abbrev BM_position : XB := (rM_position, XFT_M, mM_position, 1, XST_M)
set_option maxRecDepth 100000 in
theorem kM_position : XOK BM_position cX9_position 3 RX9 6 138 := xok_of (cps := []) (K := XKT_M) (by decide +kernel) XKT_M_ok (fun _ h => absurd h List.not_mem_nil) XFT_M_ok (List.forall_mem_cons.mpr ⟨⟨_, _, _, _, _, _, _, SM_cellOf, rfl, rfl, Nat.le_of_ble_eq_true rfl, Nat.le_of_ble_eq_true rfl, cdM_cellOf, lkM_151, imM_cellOf, slM_cellOf, inM_cellOf, pmM_cellOf⟩, List.forall_mem_cons.mpr ⟨⟨_, _, _, _, _, _, _, SM_labelOf, rfl, rfl, Nat.le_of_ble_eq_true rfl, Nat.le_of_ble_eq_true rfl, cdM_labelOf, lkM_187, imM_labelOf, slM_labelOf, inM_labelOf, pmM_labelOf⟩, List.forall_mem_cons.mpr ⟨⟨_, _, _, _, _, _, _, SM_isStation, rfl, rfl, Nat.le_of_ble_eq_true rfl, Nat.le_of_ble_eq_true rfl, cdM_isStation, lkM_374, imM_isStation, slM_isStation, inM_isStation, pmM_isStation⟩, List.forall_mem_cons.mpr ⟨⟨_, _, _, _, _, _, _, SM_lays, rfl, rfl, Nat.le_of_ble_eq_true rfl, Nat.le_of_ble_eq_true rfl, cdM_lays, lkM_380, imM_lays, slM_lays, inM_lays, pmM_lays⟩, fun _ h => absurd h List.not_mem_nil⟩⟩⟩⟩) XST_M_ok
def wM_position (f : Nat → Int32 → Int32 → XH → XR) : List Value → List Value → XH → XR := fun vs st h => match vs, st with
  | [.ref a0, .int x1, .int x2], [] => f a0 x1 x2 h
  | _, _ => none
set_option maxRecDepth 100000 in
theorem eM_position (a0 : Nat) (x1 : Int32) (x2 : Int32) (h : XH) : qM_position a0 x1 x2 h = xrun BM_position (xfind []) 19 0 (List.zip [0, 1, 2] [.ref a0, .int x1, .int x2]) [] h := rfl
theorem tM_position : XTo cX9_position 3 RX9 1 6 138 0 [0, 1, 2] (wM_position (qM_position)) := by
  refine XTo.run (B := BM_position) (cut := xfind []) kM_position (xcuts_ok (fun _ h => absurd h List.not_mem_nil)) 19 (fun vs st h r hr => ?_)
  unfold wM_position at hr
  split at hr
  · exact (eM_position _ _ _ _).symm.trans hr
  · cases hr
def FM_position : List Value → XH → XR := fun vs h => match vs with
  | [.ref a0, .int x1, .int x2] => qM_position a0 x1 x2 h
  | _ => none
theorem SM_position : XS yX9_position cX9_position 3 (some .int) (xrm 6 138) FM_position := by
  refine XS.of (own := RX9) (by decide) rfl (rk := 1) rfl (tM_position) (fun vs h r hr => ?_)
  unfold FM_position at hr
  split at hr
  · exact ⟨rfl, Nat.le_of_ble_eq_true rfl, hr⟩
  · cases hr
-- LineDiagram.why(III)I
def rD_why : List (Nat × XRow) := [(0, (.aload_n 0, 1, 0, .null, [])),
  (1, (.iload_n 1, 2, 1, .null, [])),
  (2, (.iload_n 2, 3, 2, .null, [])),
  (3, (.invokevirtual 151, 6, 151, .null, [])),
  (6, (.ifCond .eq 10, 9, 16, .null, [])),
  (9, (.iload_n 3, 10, 3, .null, [])),
  (10, (.invokestatic 154, 13, 154, .null, [])),
  (13, (.ifCond .ne 5, 16, 18, .null, [])),
  (16, (.iconst (-1), 17, 0, .int (-1 : Int32), [])),
  (17, (.ireturn, 18, 0, .null, [])),
  (18, (.aload_n 0, 19, 0, .null, [])),
  (19, (.getfield 54, 22, 54, .null, [])),
  (22, (.aload_n 0, 23, 0, .null, [])),
  (23, (.getfield 54, 26, 54, .null, [])),
  (26, (.iload_n 1, 27, 1, .null, [])),
  (27, (.iload_n 2, 28, 2, .null, [])),
  (28, (.invokevirtual 157, 31, 157, .null, [])),
  (31, (.iload_n 3, 32, 3, .null, [])),
  (32, (.invokevirtual 170, 35, 170, .null, [])),
  (35, (.ireturn, 36, 0, .null, []))]
def mD_why : List (Nat × XM) := [(151, (3, 1, some 8, FD_isStation)), (154, (1, 1, none, FD_isPosition)), (157, (3, 1, some 0, FB_stationCell)), (170, (3, 1, some 0, FB_reason))]
abbrev BD_why : XB := (rD_why, XFT_D, mD_why, 1, XST_D)
set_option maxRecDepth 100000 in
theorem kD_why : XOK BD_why cX8_why 4 RX8 3 71 := xok_of (cps := []) (K := XKT_D) (by decide +kernel) XKT_D_ok (fun _ h => absurd h List.not_mem_nil) XFT_D_ok (List.forall_mem_cons.mpr ⟨⟨_, _, _, _, _, _, _, SD_isStation, rfl, rfl, Nat.le_of_ble_eq_true rfl, Nat.le_of_ble_eq_true rfl, cdD_isStation, lkD_151, imD_isStation, slD_isStation, inD_isStation, pmD_isStation⟩, List.forall_mem_cons.mpr ⟨⟨_, _, _, _, _, _, SD_isPosition, Nat.le_of_ble_eq_true rfl, Nat.le_of_ble_eq_true rfl, cdD_isPosition, lkD_154, imD_isPosition, inD_isPosition, pmD_isPosition⟩, List.forall_mem_cons.mpr ⟨⟨_, _, _, _, _, _, _, SB_stationCell, rfl, rfl, Nat.le_of_ble_eq_true rfl, Nat.le_of_ble_eq_true rfl, cdB_stationCell, lkD_157, imB_stationCell, slB_stationCell, inB_stationCell, pmB_stationCell⟩, List.forall_mem_cons.mpr ⟨⟨_, _, _, _, _, _, _, SB_reason, rfl, rfl, Nat.le_of_ble_eq_true rfl, Nat.le_of_ble_eq_true rfl, cdB_reason, lkD_170, imB_reason, slB_reason, inB_reason, pmB_reason⟩, fun _ h => absurd h List.not_mem_nil⟩⟩⟩⟩) XST_D_ok
def wD_why (f : Nat → Int32 → Int32 → Int32 → XH → XR) : List Value → List Value → XH → XR := fun vs st h => match vs, st with
  | [.ref a0, .int x1, .int x2, .int x3], [] => f a0 x1 x2 x3 h
  | _, _ => none
set_option maxRecDepth 100000 in
theorem eD_why (a0 : Nat) (x1 : Int32) (x2 : Int32) (x3 : Int32) (h : XH) : qD_why a0 x1 x2 x3 h = xrun BD_why (xfind []) 23 0 (List.zip [0, 1, 2, 3] [.ref a0, .int x1, .int x2, .int x3]) [] h := rfl
theorem tD_why : XTo cX8_why 4 RX8 1 3 71 0 [0, 1, 2, 3] (wD_why (qD_why)) := by
  refine XTo.run (B := BD_why) (cut := xfind []) kD_why (xcuts_ok (fun _ h => absurd h List.not_mem_nil)) 23 (fun vs st h r hr => ?_)
  unfold wD_why at hr
  split at hr
  · exact (eD_why _ _ _ _ _).symm.trans hr
  · cases hr
def FD_why : List Value → XH → XR := fun vs h => match vs with
  | [.ref a0, .int x1, .int x2, .int x3] => qD_why a0 x1 x2 x3 h
  | _ => none
theorem SD_why : XS yX8_why cX8_why 4 (some .int) (xrm 3 71) FD_why := by
  refine XS.of (own := RX8) (by decide) rfl (rk := 1) rfl (tD_why) (fun vs h r hr => ?_)
  unfold FD_why at hr
  split at hr
  · exact ⟨rfl, Nat.le_of_ble_eq_true rfl, hr⟩
  · cases hr
-- LineDiagramModel.why(III)I
def rM_why : List (Nat × XRow) := [(0, (.aload_n 0, 1, 0, .null, [])),
  (1, (.iload_n 1, 2, 1, .null, [])),
  (2, (.iload_n 2, 3, 2, .null, [])),
  (3, (.invokevirtual 374, 6, 374, .null, [])),
  (6, (.ifCond .eq 10, 9, 16, .null, [])),
  (9, (.iload_n 3, 10, 3, .null, [])),
  (10, (.invokestatic 377, 13, 377, .null, [])),
  (13, (.ifCond .ne 5, 16, 18, .null, [])),
  (16, (.iconst (-1), 17, 0, .int (-1 : Int32), [])),
  (17, (.ireturn, 18, 0, .null, [])),
  (18, (.aload_n 0, 19, 0, .null, [])),
  (19, (.invokevirtual 380, 22, 380, .null, [])),
  (22, (.aload_n 0, 23, 0, .null, [])),
  (23, (.aload_n 0, 24, 0, .null, [])),
  (24, (.iload_n 1, 25, 1, .null, [])),
  (25, (.iload_n 2, 26, 2, .null, [])),
  (26, (.invokevirtual 151, 29, 151, .null, [])),
  (29, (.iload_n 3, 30, 3, .null, [])),
  (30, (.invokevirtual 199, 33, 199, .null, [])),
  (33, (.ireturn, 34, 0, .null, []))]
def mM_why : List (Nat × XM) := [(151, (3, 1, some 9, FM_cellOf)), (199, (3, 1, some 9, FM_whyNot)), (374, (3, 1, some 9, FM_isStation)), (377, (1, 1, none, FM_isPosition)), (380, (1, 0, some 9, FM_lays))]
abbrev BM_why : XB := (rM_why, XFT_M, mM_why, 1, XST_M)
set_option maxRecDepth 100000 in
theorem kM_why : XOK BM_why cX9_why 4 RX9 6 138 := xok_of (cps := []) (K := XKT_M) (by decide +kernel) XKT_M_ok (fun _ h => absurd h List.not_mem_nil) XFT_M_ok (List.forall_mem_cons.mpr ⟨⟨_, _, _, _, _, _, _, SM_cellOf, rfl, rfl, Nat.le_of_ble_eq_true rfl, Nat.le_of_ble_eq_true rfl, cdM_cellOf, lkM_151, imM_cellOf, slM_cellOf, inM_cellOf, pmM_cellOf⟩, List.forall_mem_cons.mpr ⟨⟨_, _, _, _, _, _, _, SM_whyNot, rfl, rfl, Nat.le_of_ble_eq_true rfl, Nat.le_of_ble_eq_true rfl, cdM_whyNot, lkM_199, imM_whyNot, slM_whyNot, inM_whyNot, pmM_whyNot⟩, List.forall_mem_cons.mpr ⟨⟨_, _, _, _, _, _, _, SM_isStation, rfl, rfl, Nat.le_of_ble_eq_true rfl, Nat.le_of_ble_eq_true rfl, cdM_isStation, lkM_374, imM_isStation, slM_isStation, inM_isStation, pmM_isStation⟩, List.forall_mem_cons.mpr ⟨⟨_, _, _, _, _, _, SM_isPosition, Nat.le_of_ble_eq_true rfl, Nat.le_of_ble_eq_true rfl, cdM_isPosition, lkM_377, imM_isPosition, inM_isPosition, pmM_isPosition⟩, List.forall_mem_cons.mpr ⟨⟨_, _, _, _, _, _, _, SM_lays, rfl, rfl, Nat.le_of_ble_eq_true rfl, Nat.le_of_ble_eq_true rfl, cdM_lays, lkM_380, imM_lays, slM_lays, inM_lays, pmM_lays⟩, fun _ h => absurd h List.not_mem_nil⟩⟩⟩⟩⟩) XST_M_ok
def wM_why (f : Nat → Int32 → Int32 → Int32 → XH → XR) : List Value → List Value → XH → XR := fun vs st h => match vs, st with
  | [.ref a0, .int x1, .int x2, .int x3], [] => f a0 x1 x2 x3 h
  | _, _ => none
set_option maxRecDepth 100000 in
theorem eM_why (a0 : Nat) (x1 : Int32) (x2 : Int32) (x3 : Int32) (h : XH) : qM_why a0 x1 x2 x3 h = xrun BM_why (xfind []) 23 0 (List.zip [0, 1, 2, 3] [.ref a0, .int x1, .int x2, .int x3]) [] h := rfl
theorem tM_why : XTo cX9_why 4 RX9 1 6 138 0 [0, 1, 2, 3] (wM_why (qM_why)) := by
  refine XTo.run (B := BM_why) (cut := xfind []) kM_why (xcuts_ok (fun _ h => absurd h List.not_mem_nil)) 23 (fun vs st h r hr => ?_)
  unfold wM_why at hr
  split at hr
  · exact (eM_why _ _ _ _ _).symm.trans hr
  · cases hr
def FM_why : List Value → XH → XR := fun vs h => match vs with
  | [.ref a0, .int x1, .int x2, .int x3] => qM_why a0 x1 x2 x3 h
  | _ => none
theorem SM_why : XS yX9_why cX9_why 4 (some .int) (xrm 6 138) FM_why := by
  refine XS.of (own := RX9) (by decide) rfl (rk := 1) rfl (tM_why) (fun vs h r hr => ?_)
  unfold FM_why at hr
  split at hr
  · exact ⟨rfl, Nat.le_of_ble_eq_true rfl, hr⟩
  · cases hr
-- LineDiagram.free(II)I
def rD_free : List (Nat × XRow) := [(0, (.aload_n 0, 1, 0, .null, [])),
  (1, (.iload_n 1, 2, 1, .null, [])),
  (2, (.iload_n 2, 3, 2, .null, [])),
  (3, (.invokevirtual 151, 6, 151, .null, [])),
  (6, (.ifCond .ne 5, 9, 11, .null, [])),
  (9, (.iconst (-1), 10, 0, .int (-1 : Int32), [])),
  (10, (.ireturn, 11, 0, .null, [])),
  (11, (.aload_n 0, 12, 0, .null, [])),
  (12, (.getfield 54, 15, 54, .null, [])),
  (15, (.iload_n 1, 16, 1, .null, [])),
  (16, (.iload_n 2, 17, 2, .null, [])),
  (17, (.invokevirtual 157, 20, 157, .null, [])),
  (20, (.istore_n 3, 21, 3, .null, [])),
  (21, (.iconst 0, 22, 0, .int (0 : Int32), [])),
  (22, (.istore 4, 24, 4, .null, [])),
  (24, (.iconst 0, 25, 0, .int (0 : Int32), [])),
  (25, (.istore 5, 27, 5, .null, [])),
  (27, (.iload 5, 29, 5, .null, [])),
  (29, (.bipush 8, 31, 0, .int (8 : Int32), [])),
  (31, (.if_icmp .ge 31, 34, 62, .null, [])),
  (34, (.aload_n 0, 35, 0, .null, [])),
  (35, (.getfield 54, 38, 54, .null, [])),
  (38, (.iload_n 3, 39, 3, .null, [])),
  (39, (.iload 5, 41, 5, .null, [])),
  (41, (.invokevirtual 170, 44, 170, .null, [])),
  (44, (.ifCond .ne 12, 47, 56, .null, [])),
  (47, (.iload 4, 49, 4, .null, [])),
  (49, (.iconst 1, 50, 0, .int (1 : Int32), [])),
  (50, (.iload 5, 52, 5, .null, [])),
  (52, (.ishl, 53, 0, .null, [])),
  (53, (.ior, 54, 0, .null, [])),
  (54, (.istore 4, 56, 4, .null, [])),
  (56, (.iinc 5 1, 59, 5, .int (1 : Int32), [])),
  (59, (.goto (-32), 62, 27, .null, [])),
  (62, (.iload 4, 64, 4, .null, [])),
  (64, (.ireturn, 65, 0, .null, []))]
def mD_free : List (Nat × XM) := [(151, (3, 1, some 8, FD_isStation)), (157, (3, 1, some 0, FB_stationCell)), (170, (3, 1, some 0, FB_reason))]
abbrev BD_free : XB := (rD_free, XFT_D, mD_free, 1, XST_D)
set_option maxRecDepth 100000 in
theorem kD_free : XOK BD_free cX8_free 6 RX8 3 71 := xok_of (cps := []) (K := XKT_D) (by decide +kernel) XKT_D_ok (fun _ h => absurd h List.not_mem_nil) XFT_D_ok (List.forall_mem_cons.mpr ⟨⟨_, _, _, _, _, _, _, SD_isStation, rfl, rfl, Nat.le_of_ble_eq_true rfl, Nat.le_of_ble_eq_true rfl, cdD_isStation, lkD_151, imD_isStation, slD_isStation, inD_isStation, pmD_isStation⟩, List.forall_mem_cons.mpr ⟨⟨_, _, _, _, _, _, _, SB_stationCell, rfl, rfl, Nat.le_of_ble_eq_true rfl, Nat.le_of_ble_eq_true rfl, cdB_stationCell, lkD_157, imB_stationCell, slB_stationCell, inB_stationCell, pmB_stationCell⟩, List.forall_mem_cons.mpr ⟨⟨_, _, _, _, _, _, _, SB_reason, rfl, rfl, Nat.le_of_ble_eq_true rfl, Nat.le_of_ble_eq_true rfl, cdB_reason, lkD_170, imB_reason, slB_reason, inB_reason, pmB_reason⟩, fun _ h => absurd h List.not_mem_nil⟩⟩⟩) XST_D_ok
def wD_free_27 (f : Nat → Int32 → Int32 → Int32 → XH → XR) : List Value → List Value → XH → XR := fun vs st h => match vs, st with
  | [.ref a0, .int x3, .int x4, .int x5], [] => f a0 x3 x4 x5 h
  | _, _ => none
def wD_free (f : Nat → Int32 → Int32 → XH → XR) : List Value → List Value → XH → XR := fun vs st h => match vs, st with
  | [.ref a0, .int x1, .int x2], [] => f a0 x1 x2 h
  | _, _ => none
set_option maxRecDepth 100000 in
theorem eD_free_27_b (k27 : Nat → Int32 → Int32 → Int32 → XH → XR) (a0 : Nat) (x3 : Int32) (x4 : Int32) (x5 : Int32) (h : XH) : qD_free_27_b k27 a0 x3 x4 x5 h = xrun BD_free (xfind [(27, ([0, 3, 4, 5], wD_free_27 (k27)))]) 39 27 (List.zip [0, 3, 4, 5] [.ref a0, .int x3, .int x4, .int x5]) [] h := rfl
theorem tD_free_27_b {k27 : Nat → Int32 → Int32 → Int32 → XH → XR} (hk27 : XTo cX8_free 6 RX8 1 3 71 27 [0, 3, 4, 5] (wD_free_27 k27)) : XTo cX8_free 6 RX8 1 3 71 27 [0, 3, 4, 5] (wD_free_27 (qD_free_27_b k27)) := by
  refine XTo.run (B := BD_free) (cut := xfind [(27, ([0, 3, 4, 5], wD_free_27 (k27)))]) kD_free (xcuts_ok (List.forall_mem_cons.mpr ⟨hk27, fun _ h => absurd h List.not_mem_nil⟩)) 39 (fun vs st h r hr => ?_)
  unfold wD_free_27 at hr
  split at hr
  · exact (eD_free_27_b k27 _ _ _ _ _).symm.trans hr
  · cases hr
theorem tD_free_27 : ∀ n : Nat, XTo cX8_free 6 RX8 1 3 71 27 [0, 3, 4, 5] (wD_free_27 (qD_free_27 n)) := by
  intro n
  induction n with
  | zero =>
    refine XTo.none fun vs st h => ?_
    unfold wD_free_27
    split <;> rfl
  | succ n ih => exact tD_free_27_b  ih
set_option maxRecDepth 100000 in
theorem eD_free (a0 : Nat) (x1 : Int32) (x2 : Int32) (h : XH) : qD_free a0 x1 x2 h = xrun BD_free (xfind [(27, ([0, 3, 4, 5], wD_free_27 (qD_free_27 LF)))]) 39 0 (List.zip [0, 1, 2] [.ref a0, .int x1, .int x2]) [] h := rfl
theorem tD_free : XTo cX8_free 6 RX8 1 3 71 0 [0, 1, 2] (wD_free (qD_free)) := by
  refine XTo.run (B := BD_free) (cut := xfind [(27, ([0, 3, 4, 5], wD_free_27 (qD_free_27 LF)))]) kD_free (xcuts_ok (List.forall_mem_cons.mpr ⟨tD_free_27 LF, fun _ h => absurd h List.not_mem_nil⟩)) 39 (fun vs st h r hr => ?_)
  unfold wD_free at hr
  split at hr
  · exact (eD_free _ _ _ _).symm.trans hr
  · cases hr
def FD_free : List Value → XH → XR := fun vs h => match vs with
  | [.ref a0, .int x1, .int x2] => qD_free a0 x1 x2 h
  | _ => none
theorem SD_free : XS yX8_free cX8_free 6 (some .int) (xrm 3 71) FD_free := by
  refine XS.of (own := RX8) (by decide) rfl (rk := 1) rfl (tD_free) (fun vs h r hr => ?_)
  unfold FD_free at hr
  split at hr
  · exact ⟨rfl, Nat.le_of_ble_eq_true rfl, hr⟩
  · cases hr
-- LineDiagramModel.free(II)I
def rM_free : List (Nat × XRow) := [(0, (.aload_n 0, 1, 0, .null, [])),
  (1, (.iload_n 1, 2, 1, .null, [])),
  (2, (.iload_n 2, 3, 2, .null, [])),
  (3, (.invokevirtual 374, 6, 374, .null, [])),
  (6, (.ifCond .ne 5, 9, 11, .null, [])),
  (9, (.iconst (-1), 10, 0, .int (-1 : Int32), [])),
  (10, (.ireturn, 11, 0, .null, [])),
  (11, (.aload_n 0, 12, 0, .null, [])),
  (12, (.invokevirtual 380, 15, 380, .null, [])),
  (15, (.iconst 0, 16, 0, .int (0 : Int32), [])),
  (16, (.istore_n 3, 17, 3, .null, [])),
  (17, (.iconst 0, 18, 0, .int (0 : Int32), [])),
  (18, (.istore 4, 20, 4, .null, [])),
  (20, (.iload 4, 22, 4, .null, [])),
  (22, (.bipush 8, 24, 0, .int (8 : Int32), [])),
  (24, (.if_icmp .ge 35, 27, 59, .null, [])),
  (27, (.iload_n 3, 28, 3, .null, [])),
  (28, (.aload_n 0, 29, 0, .null, [])),
  (29, (.aload_n 0, 30, 0, .null, [])),
  (30, (.iload_n 1, 31, 1, .null, [])),
  (31, (.iload_n 2, 32, 2, .null, [])),
  (32, (.invokevirtual 151, 35, 151, .null, [])),
  (35, (.iload 4, 37, 4, .null, [])),
  (37, (.invokevirtual 199, 40, 199, .null, [])),
  (40, (.ifCond .ne 10, 43, 50, .null, [])),
  (43, (.iconst 1, 44, 0, .int (1 : Int32), [])),
  (44, (.iload 4, 46, 4, .null, [])),
  (46, (.ishl, 47, 0, .null, [])),
  (47, (.goto 4, 50, 51, .null, [])),
  (50, (.iconst 0, 51, 0, .int (0 : Int32), [])),
  (51, (.ior, 52, 0, .null, [])),
  (52, (.istore_n 3, 53, 3, .null, [])),
  (53, (.iinc 4 1, 56, 4, .int (1 : Int32), [])),
  (56, (.goto (-36), 59, 20, .null, [])),
  (59, (.iload_n 3, 60, 3, .null, [])),
  (60, (.ireturn, 61, 0, .null, []))]
def mM_free : List (Nat × XM) := [(151, (3, 1, some 9, FM_cellOf)), (199, (3, 1, some 9, FM_whyNot)), (374, (3, 1, some 9, FM_isStation)), (380, (1, 0, some 9, FM_lays))]
abbrev BM_free : XB := (rM_free, XFT_M, mM_free, 1, XST_M)
set_option maxRecDepth 100000 in
theorem kM_free : XOK BM_free cX9_free 5 RX9 6 138 := xok_of (cps := []) (K := XKT_M) (by decide +kernel) XKT_M_ok (fun _ h => absurd h List.not_mem_nil) XFT_M_ok (List.forall_mem_cons.mpr ⟨⟨_, _, _, _, _, _, _, SM_cellOf, rfl, rfl, Nat.le_of_ble_eq_true rfl, Nat.le_of_ble_eq_true rfl, cdM_cellOf, lkM_151, imM_cellOf, slM_cellOf, inM_cellOf, pmM_cellOf⟩, List.forall_mem_cons.mpr ⟨⟨_, _, _, _, _, _, _, SM_whyNot, rfl, rfl, Nat.le_of_ble_eq_true rfl, Nat.le_of_ble_eq_true rfl, cdM_whyNot, lkM_199, imM_whyNot, slM_whyNot, inM_whyNot, pmM_whyNot⟩, List.forall_mem_cons.mpr ⟨⟨_, _, _, _, _, _, _, SM_isStation, rfl, rfl, Nat.le_of_ble_eq_true rfl, Nat.le_of_ble_eq_true rfl, cdM_isStation, lkM_374, imM_isStation, slM_isStation, inM_isStation, pmM_isStation⟩, List.forall_mem_cons.mpr ⟨⟨_, _, _, _, _, _, _, SM_lays, rfl, rfl, Nat.le_of_ble_eq_true rfl, Nat.le_of_ble_eq_true rfl, cdM_lays, lkM_380, imM_lays, slM_lays, inM_lays, pmM_lays⟩, fun _ h => absurd h List.not_mem_nil⟩⟩⟩⟩) XST_M_ok
def wM_free_20 (f : Nat → Int32 → Int32 → Int32 → Int32 → XH → XR) : List Value → List Value → XH → XR := fun vs st h => match vs, st with
  | [.ref a0, .int x1, .int x2, .int x3, .int x4], [] => f a0 x1 x2 x3 x4 h
  | _, _ => none
def wM_free (f : Nat → Int32 → Int32 → XH → XR) : List Value → List Value → XH → XR := fun vs st h => match vs, st with
  | [.ref a0, .int x1, .int x2], [] => f a0 x1 x2 h
  | _, _ => none
set_option maxRecDepth 100000 in
theorem eM_free_20_b (k20 : Nat → Int32 → Int32 → Int32 → Int32 → XH → XR) (a0 : Nat) (x1 : Int32) (x2 : Int32) (x3 : Int32) (x4 : Int32) (h : XH) : qM_free_20_b k20 a0 x1 x2 x3 x4 h = xrun BM_free (xfind [(20, ([0, 1, 2, 3, 4], wM_free_20 (k20)))]) 39 20 (List.zip [0, 1, 2, 3, 4] [.ref a0, .int x1, .int x2, .int x3, .int x4]) [] h := rfl
theorem tM_free_20_b {k20 : Nat → Int32 → Int32 → Int32 → Int32 → XH → XR} (hk20 : XTo cX9_free 5 RX9 1 6 138 20 [0, 1, 2, 3, 4] (wM_free_20 k20)) : XTo cX9_free 5 RX9 1 6 138 20 [0, 1, 2, 3, 4] (wM_free_20 (qM_free_20_b k20)) := by
  refine XTo.run (B := BM_free) (cut := xfind [(20, ([0, 1, 2, 3, 4], wM_free_20 (k20)))]) kM_free (xcuts_ok (List.forall_mem_cons.mpr ⟨hk20, fun _ h => absurd h List.not_mem_nil⟩)) 39 (fun vs st h r hr => ?_)
  unfold wM_free_20 at hr
  split at hr
  · exact (eM_free_20_b k20 _ _ _ _ _ _).symm.trans hr
  · cases hr
theorem tM_free_20 : ∀ n : Nat, XTo cX9_free 5 RX9 1 6 138 20 [0, 1, 2, 3, 4] (wM_free_20 (qM_free_20 n)) := by
  intro n
  induction n with
  | zero =>
    refine XTo.none fun vs st h => ?_
    unfold wM_free_20
    split <;> rfl
  | succ n ih => exact tM_free_20_b  ih
set_option maxRecDepth 100000 in
theorem eM_free (a0 : Nat) (x1 : Int32) (x2 : Int32) (h : XH) : qM_free a0 x1 x2 h = xrun BM_free (xfind [(20, ([0, 1, 2, 3, 4], wM_free_20 (qM_free_20 LF)))]) 39 0 (List.zip [0, 1, 2] [.ref a0, .int x1, .int x2]) [] h := rfl
theorem tM_free : XTo cX9_free 5 RX9 1 6 138 0 [0, 1, 2] (wM_free (qM_free)) := by
  refine XTo.run (B := BM_free) (cut := xfind [(20, ([0, 1, 2, 3, 4], wM_free_20 (qM_free_20 LF)))]) kM_free (xcuts_ok (List.forall_mem_cons.mpr ⟨tM_free_20 LF, fun _ h => absurd h List.not_mem_nil⟩)) 39 (fun vs st h r hr => ?_)
  unfold wM_free at hr
  split at hr
  · exact (eM_free _ _ _ _).symm.trans hr
  · cases hr
def FM_free : List Value → XH → XR := fun vs h => match vs with
  | [.ref a0, .int x1, .int x2] => qM_free a0 x1 x2 h
  | _ => none
theorem SM_free : XS yX9_free cX9_free 5 (some .int) (xrm 6 138) FM_free := by
  refine XS.of (own := RX9) (by decide) rfl (rk := 1) rfl (tM_free) (fun vs h r hr => ?_)
  unfold FM_free at hr
  split at hr
  · exact ⟨rfl, Nat.le_of_ble_eq_true rfl, hr⟩
  · cases hr
-- LineDiagram.labelAt(II)I
def rD_labelAt : List (Nat × XRow) := [(0, (.aload_n 0, 1, 0, .null, [])),
  (1, (.iload_n 1, 2, 1, .null, [])),
  (2, (.iload_n 2, 3, 2, .null, [])),
  (3, (.invokevirtual 119, 6, 119, .null, [])),
  (6, (.ifCond .ne 5, 9, 11, .null, [])),
  (9, (.iconst (-1), 10, 0, .int (-1 : Int32), [])),
  (10, (.ireturn, 11, 0, .null, [])),
  (11, (.aload_n 0, 12, 0, .null, [])),
  (12, (.getfield 54, 15, 54, .null, [])),
  (15, (.getfield 289, 18, 289, .null, [])),
  (18, (.iload_n 1, 19, 1, .null, [])),
  (19, (.iload_n 2, 20, 2, .null, [])),
  (20, (.invokestatic 284, 23, 284, .null, [])),
  (23, (.iaload, 24, 0, .null, [])),
  (24, (.istore_n 3, 25, 3, .null, [])),
  (25, (.iload_n 3, 26, 3, .null, [])),
  (26, (.ifCond .ne 8, 29, 34, .null, [])),
  (29, (.bipush (-2), 31, 0, .int (-2 : Int32), [])),
  (31, (.goto 9, 34, 40, .null, [])),
  (34, (.iload_n 3, 35, 3, .null, [])),
  (35, (.iconst 1, 36, 0, .int (1 : Int32), [])),
  (36, (.isub, 37, 0, .null, [])),
  (37, (.invokestatic 314, 40, 314, .null, [])),
  (40, (.ireturn, 41, 0, .null, []))]
def mD_labelAt : List (Nat × XM) := [(119, (3, 1, some 8, FD_isCell)), (284, (2, 1, none, FD_cellAt)), (314, (1, 1, none, FD_codeOf))]
abbrev BD_labelAt : XB := (rD_labelAt, XFT_D, mD_labelAt, 1, XST_D)
set_option maxRecDepth 100000 in
theorem kD_labelAt : XOK BD_labelAt cX8_labelAt 4 RX8 2 40 := xok_of (cps := []) (K := XKT_D) (by decide +kernel) XKT_D_ok (fun _ h => absurd h List.not_mem_nil) XFT_D_ok (List.forall_mem_cons.mpr ⟨⟨_, _, _, _, _, _, _, SD_isCell, rfl, rfl, Nat.le_of_ble_eq_true rfl, Nat.le_of_ble_eq_true rfl, cdD_isCell, lkD_119, imD_isCell, slD_isCell, inD_isCell, pmD_isCell⟩, List.forall_mem_cons.mpr ⟨⟨_, _, _, _, _, _, SD_cellAt, Nat.le_of_ble_eq_true rfl, Nat.le_of_ble_eq_true rfl, cdD_cellAt, lkD_284, imD_cellAt, inD_cellAt, pmD_cellAt⟩, List.forall_mem_cons.mpr ⟨⟨_, _, _, _, _, _, SD_codeOf, Nat.le_of_ble_eq_true rfl, Nat.le_of_ble_eq_true rfl, cdD_codeOf, lkD_314, imD_codeOf, inD_codeOf, pmD_codeOf⟩, fun _ h => absurd h List.not_mem_nil⟩⟩⟩) XST_D_ok
def wD_labelAt (f : Nat → Int32 → Int32 → XH → XR) : List Value → List Value → XH → XR := fun vs st h => match vs, st with
  | [.ref a0, .int x1, .int x2], [] => f a0 x1 x2 h
  | _, _ => none
set_option maxRecDepth 100000 in
theorem eD_labelAt (a0 : Nat) (x1 : Int32) (x2 : Int32) (h : XH) : qD_labelAt a0 x1 x2 h = xrun BD_labelAt (xfind []) 27 0 (List.zip [0, 1, 2] [.ref a0, .int x1, .int x2]) [] h := rfl
theorem tD_labelAt : XTo cX8_labelAt 4 RX8 1 2 40 0 [0, 1, 2] (wD_labelAt (qD_labelAt)) := by
  refine XTo.run (B := BD_labelAt) (cut := xfind []) kD_labelAt (xcuts_ok (fun _ h => absurd h List.not_mem_nil)) 27 (fun vs st h r hr => ?_)
  unfold wD_labelAt at hr
  split at hr
  · exact (eD_labelAt _ _ _ _).symm.trans hr
  · cases hr
def FD_labelAt : List Value → XH → XR := fun vs h => match vs with
  | [.ref a0, .int x1, .int x2] => qD_labelAt a0 x1 x2 h
  | _ => none
theorem SD_labelAt : XS yX8_labelAt cX8_labelAt 4 (some .int) (xrm 2 40) FD_labelAt := by
  refine XS.of (own := RX8) (by decide) rfl (rk := 1) rfl (tD_labelAt) (fun vs h r hr => ?_)
  unfold FD_labelAt at hr
  split at hr
  · exact ⟨rfl, Nat.le_of_ble_eq_true rfl, hr⟩
  · cases hr
-- LineDiagramModel.labelAt(II)I
def rM_labelAt : List (Nat × XRow) := [(0, (.aload_n 0, 1, 0, .null, [])),
  (1, (.iload_n 1, 2, 1, .null, [])),
  (2, (.iload_n 2, 3, 2, .null, [])),
  (3, (.invokevirtual 346, 6, 346, .null, [])),
  (6, (.ifCond .ne 5, 9, 11, .null, [])),
  (9, (.iconst (-1), 10, 0, .int (-1 : Int32), [])),
  (10, (.ireturn, 11, 0, .null, [])),
  (11, (.aload_n 0, 12, 0, .null, [])),
  (12, (.invokevirtual 380, 15, 380, .null, [])),
  (15, (.aload_n 0, 16, 0, .null, [])),
  (16, (.getfield 58, 19, 58, .null, [])),
  (19, (.iload_n 1, 20, 1, .null, [])),
  (20, (.iload_n 2, 21, 2, .null, [])),
  (21, (.invokestatic 145, 24, 145, .null, [])),
  (24, (.iaload, 25, 0, .null, [])),
  (25, (.invokestatic 443, 28, 443, .null, [])),
  (28, (.ireturn, 29, 0, .null, []))]
def mM_labelAt : List (Nat × XM) := [(145, (2, 1, none, FM_cell)), (346, (3, 1, some 9, FM_isCell)), (380, (1, 0, some 9, FM_lays)), (443, (1, 1, none, FM_told))]
abbrev BM_labelAt : XB := (rM_labelAt, XFT_M, mM_labelAt, 1, XST_M)
set_option maxRecDepth 100000 in
theorem kM_labelAt : XOK BM_labelAt cX9_labelAt 3 RX9 6 138 := xok_of (cps := []) (K := XKT_M) (by decide +kernel) XKT_M_ok (fun _ h => absurd h List.not_mem_nil) XFT_M_ok (List.forall_mem_cons.mpr ⟨⟨_, _, _, _, _, _, SM_cell, Nat.le_of_ble_eq_true rfl, Nat.le_of_ble_eq_true rfl, cdM_cell, lkM_145, imM_cell, inM_cell, pmM_cell⟩, List.forall_mem_cons.mpr ⟨⟨_, _, _, _, _, _, _, SM_isCell, rfl, rfl, Nat.le_of_ble_eq_true rfl, Nat.le_of_ble_eq_true rfl, cdM_isCell, lkM_346, imM_isCell, slM_isCell, inM_isCell, pmM_isCell⟩, List.forall_mem_cons.mpr ⟨⟨_, _, _, _, _, _, _, SM_lays, rfl, rfl, Nat.le_of_ble_eq_true rfl, Nat.le_of_ble_eq_true rfl, cdM_lays, lkM_380, imM_lays, slM_lays, inM_lays, pmM_lays⟩, List.forall_mem_cons.mpr ⟨⟨_, _, _, _, _, _, SM_told, Nat.le_of_ble_eq_true rfl, Nat.le_of_ble_eq_true rfl, cdM_told, lkM_443, imM_told, inM_told, pmM_told⟩, fun _ h => absurd h List.not_mem_nil⟩⟩⟩⟩) XST_M_ok
def wM_labelAt (f : Nat → Int32 → Int32 → XH → XR) : List Value → List Value → XH → XR := fun vs st h => match vs, st with
  | [.ref a0, .int x1, .int x2], [] => f a0 x1 x2 h
  | _, _ => none
set_option maxRecDepth 100000 in
theorem eM_labelAt (a0 : Nat) (x1 : Int32) (x2 : Int32) (h : XH) : qM_labelAt a0 x1 x2 h = xrun BM_labelAt (xfind []) 20 0 (List.zip [0, 1, 2] [.ref a0, .int x1, .int x2]) [] h := rfl
theorem tM_labelAt : XTo cX9_labelAt 3 RX9 1 6 138 0 [0, 1, 2] (wM_labelAt (qM_labelAt)) := by
  refine XTo.run (B := BM_labelAt) (cut := xfind []) kM_labelAt (xcuts_ok (fun _ h => absurd h List.not_mem_nil)) 20 (fun vs st h r hr => ?_)
  unfold wM_labelAt at hr
  split at hr
  · exact (eM_labelAt _ _ _ _).symm.trans hr
  · cases hr
def FM_labelAt : List Value → XH → XR := fun vs h => match vs with
  | [.ref a0, .int x1, .int x2] => qM_labelAt a0 x1 x2 h
  | _ => none
theorem SM_labelAt : XS yX9_labelAt cX9_labelAt 3 (some .int) (xrm 6 138) FM_labelAt := by
  refine XS.of (own := RX9) (by decide) rfl (rk := 1) rfl (tM_labelAt) (fun vs h r hr => ?_)
  unfold FM_labelAt at hr
  split at hr
  · exact ⟨rfl, Nat.le_of_ble_eq_true rfl, hr⟩
  · cases hr
-- LineDiagram.stuck()I
def rD_stuck : List (Nat × XRow) := [(0, (.iconst 0, 1, 0, .int (0 : Int32), [])),
  (1, (.istore_n 1, 2, 1, .null, [])),
  (2, (.iconst 0, 3, 0, .int (0 : Int32), [])),
  (3, (.istore_n 2, 4, 2, .null, [])),
  (4, (.iload_n 2, 5, 2, .null, [])),
  (5, (.sipush 1600, 8, 0, .int (1600 : Int32), [])),
  (8, (.if_icmp .ge 31, 11, 39, .null, [])),
  (11, (.aload_n 0, 12, 0, .null, [])),
  (12, (.iload_n 2, 13, 2, .null, [])),
  (13, (.invokevirtual 317, 16, 317, .null, [])),
  (16, (.ifCond .eq 17, 19, 33, .null, [])),
  (19, (.aload_n 0, 20, 0, .null, [])),
  (20, (.getfield 54, 23, 54, .null, [])),
  (23, (.iload_n 2, 24, 2, .null, [])),
  (24, (.invokevirtual 186, 27, 186, .null, [])),
  (27, (.ifCond .ge 6, 30, 33, .null, [])),
  (30, (.iinc 1 1, 33, 1, .int (1 : Int32), [])),
  (33, (.iinc 2 1, 36, 2, .int (1 : Int32), [])),
  (36, (.goto (-32), 39, 4, .null, [])),
  (39, (.iload_n 1, 40, 1, .null, [])),
  (40, (.ireturn, 41, 0, .null, []))]
def mD_stuck : List (Nat × XM) := [(186, (2, 1, some 0, FB_firstFit)), (317, (2, 1, some 8, FD_wantsLabel))]
abbrev BD_stuck : XB := (rD_stuck, XFT_D, mD_stuck, 1, XST_D)
set_option maxRecDepth 100000 in
theorem kD_stuck : XOK BD_stuck cX8_stuck 3 RX8 4 93 := xok_of (cps := []) (K := XKT_D) (by decide +kernel) XKT_D_ok (fun _ h => absurd h List.not_mem_nil) XFT_D_ok (List.forall_mem_cons.mpr ⟨⟨_, _, _, _, _, _, _, SB_firstFit, rfl, rfl, Nat.le_of_ble_eq_true rfl, Nat.le_of_ble_eq_true rfl, cdB_firstFit, lkD_186, imB_firstFit, slB_firstFit, inB_firstFit, pmB_firstFit⟩, List.forall_mem_cons.mpr ⟨⟨_, _, _, _, _, _, _, SD_wantsLabel, rfl, rfl, Nat.le_of_ble_eq_true rfl, Nat.le_of_ble_eq_true rfl, cdD_wantsLabel, lkD_317, imD_wantsLabel, slD_wantsLabel, inD_wantsLabel, pmD_wantsLabel⟩, fun _ h => absurd h List.not_mem_nil⟩⟩) XST_D_ok
def wD_stuck_4 (f : Nat → Int32 → Int32 → XH → XR) : List Value → List Value → XH → XR := fun vs st h => match vs, st with
  | [.ref a0, .int x1, .int x2], [] => f a0 x1 x2 h
  | _, _ => none
def wD_stuck (f : Nat → XH → XR) : List Value → List Value → XH → XR := fun vs st h => match vs, st with
  | [.ref a0], [] => f a0 h
  | _, _ => none
set_option maxRecDepth 100000 in
theorem eD_stuck_4_b (k4 : Nat → Int32 → Int32 → XH → XR) (a0 : Nat) (x1 : Int32) (x2 : Int32) (h : XH) : qD_stuck_4_b k4 a0 x1 x2 h = xrun BD_stuck (xfind [(4, ([0, 1, 2], wD_stuck_4 (k4)))]) 24 4 (List.zip [0, 1, 2] [.ref a0, .int x1, .int x2]) [] h := rfl
theorem tD_stuck_4_b {k4 : Nat → Int32 → Int32 → XH → XR} (hk4 : XTo cX8_stuck 3 RX8 1 4 93 4 [0, 1, 2] (wD_stuck_4 k4)) : XTo cX8_stuck 3 RX8 1 4 93 4 [0, 1, 2] (wD_stuck_4 (qD_stuck_4_b k4)) := by
  refine XTo.run (B := BD_stuck) (cut := xfind [(4, ([0, 1, 2], wD_stuck_4 (k4)))]) kD_stuck (xcuts_ok (List.forall_mem_cons.mpr ⟨hk4, fun _ h => absurd h List.not_mem_nil⟩)) 24 (fun vs st h r hr => ?_)
  unfold wD_stuck_4 at hr
  split at hr
  · exact (eD_stuck_4_b k4 _ _ _ _).symm.trans hr
  · cases hr
theorem tD_stuck_4 : ∀ n : Nat, XTo cX8_stuck 3 RX8 1 4 93 4 [0, 1, 2] (wD_stuck_4 (qD_stuck_4 n)) := by
  intro n
  induction n with
  | zero =>
    refine XTo.none fun vs st h => ?_
    unfold wD_stuck_4
    split <;> rfl
  | succ n ih => exact tD_stuck_4_b  ih
set_option maxRecDepth 100000 in
theorem eD_stuck (a0 : Nat) (h : XH) : qD_stuck a0 h = xrun BD_stuck (xfind [(4, ([0, 1, 2], wD_stuck_4 (qD_stuck_4 LF)))]) 24 0 (List.zip [0] [.ref a0]) [] h := rfl
theorem tD_stuck : XTo cX8_stuck 3 RX8 1 4 93 0 [0] (wD_stuck (qD_stuck)) := by
  refine XTo.run (B := BD_stuck) (cut := xfind [(4, ([0, 1, 2], wD_stuck_4 (qD_stuck_4 LF)))]) kD_stuck (xcuts_ok (List.forall_mem_cons.mpr ⟨tD_stuck_4 LF, fun _ h => absurd h List.not_mem_nil⟩)) 24 (fun vs st h r hr => ?_)
  unfold wD_stuck at hr
  split at hr
  · exact (eD_stuck _ _).symm.trans hr
  · cases hr
def FD_stuck : List Value → XH → XR := fun vs h => match vs with
  | [.ref a0] => qD_stuck a0 h
  | _ => none
theorem SD_stuck : XS yX8_stuck cX8_stuck 3 (some .int) (xrm 4 93) FD_stuck := by
  refine XS.of (own := RX8) (by decide) rfl (rk := 1) rfl (tD_stuck) (fun vs h r hr => ?_)
  unfold FD_stuck at hr
  split at hr
  · exact ⟨rfl, Nat.le_of_ble_eq_true rfl, hr⟩
  · cases hr
-- LineDiagramModel.stuck()I
def rM_stuck : List (Nat × XRow) := [(0, (.aload_n 0, 1, 0, .null, [])),
  (1, (.invokevirtual 380, 4, 380, .null, [])),
  (4, (.iconst 0, 5, 0, .int (0 : Int32), [])),
  (5, (.istore_n 1, 6, 1, .null, [])),
  (6, (.iconst 0, 7, 0, .int (0 : Int32), [])),
  (7, (.istore_n 2, 8, 2, .null, [])),
  (8, (.iload_n 2, 9, 2, .null, [])),
  (9, (.sipush 1600, 12, 0, .int (1600 : Int32), [])),
  (12, (.if_icmp .ge 41, 15, 53, .null, [])),
  (15, (.iload_n 1, 16, 1, .null, [])),
  (16, (.aload_n 0, 17, 0, .null, [])),
  (17, (.iload_n 2, 18, 2, .null, [])),
  (18, (.invokevirtual 196, 21, 196, .null, [])),
  (21, (.ifCond .eq 23, 24, 44, .null, [])),
  (24, (.aload_n 0, 25, 0, .null, [])),
  (25, (.iload_n 2, 26, 2, .null, [])),
  (26, (.invokevirtual 187, 29, 187, .null, [])),
  (29, (.ifCond .ge 15, 32, 44, .null, [])),
  (32, (.aload_n 0, 33, 0, .null, [])),
  (33, (.iload_n 2, 34, 2, .null, [])),
  (34, (.invokevirtual 202, 37, 202, .null, [])),
  (37, (.ifCond .ge 7, 40, 44, .null, [])),
  (40, (.iconst 1, 41, 0, .int (1 : Int32), [])),
  (41, (.goto 4, 44, 45, .null, [])),
  (44, (.iconst 0, 45, 0, .int (0 : Int32), [])),
  (45, (.iadd, 46, 0, .null, [])),
  (46, (.istore_n 1, 47, 1, .null, [])),
  (47, (.iinc 2 1, 50, 2, .int (1 : Int32), [])),
  (50, (.goto (-42), 53, 8, .null, [])),
  (53, (.iload_n 1, 54, 1, .null, [])),
  (54, (.ireturn, 55, 0, .null, []))]
def mM_stuck : List (Nat × XM) := [(187, (2, 1, some 9, FM_labelOf)), (196, (2, 1, some 9, FM_isPlace)), (202, (2, 1, some 9, FM_firstFree)), (380, (1, 0, some 9, FM_lays))]
abbrev BM_stuck : XB := (rM_stuck, XFT_M, mM_stuck, 1, XST_M)
set_option maxRecDepth 100000 in
theorem kM_stuck : XOK BM_stuck cX9_stuck 3 RX9 6 138 := xok_of (cps := []) (K := XKT_M) (by decide +kernel) XKT_M_ok (fun _ h => absurd h List.not_mem_nil) XFT_M_ok (List.forall_mem_cons.mpr ⟨⟨_, _, _, _, _, _, _, SM_labelOf, rfl, rfl, Nat.le_of_ble_eq_true rfl, Nat.le_of_ble_eq_true rfl, cdM_labelOf, lkM_187, imM_labelOf, slM_labelOf, inM_labelOf, pmM_labelOf⟩, List.forall_mem_cons.mpr ⟨⟨_, _, _, _, _, _, _, SM_isPlace, rfl, rfl, Nat.le_of_ble_eq_true rfl, Nat.le_of_ble_eq_true rfl, cdM_isPlace, lkM_196, imM_isPlace, slM_isPlace, inM_isPlace, pmM_isPlace⟩, List.forall_mem_cons.mpr ⟨⟨_, _, _, _, _, _, _, SM_firstFree, rfl, rfl, Nat.le_of_ble_eq_true rfl, Nat.le_of_ble_eq_true rfl, cdM_firstFree, lkM_202, imM_firstFree, slM_firstFree, inM_firstFree, pmM_firstFree⟩, List.forall_mem_cons.mpr ⟨⟨_, _, _, _, _, _, _, SM_lays, rfl, rfl, Nat.le_of_ble_eq_true rfl, Nat.le_of_ble_eq_true rfl, cdM_lays, lkM_380, imM_lays, slM_lays, inM_lays, pmM_lays⟩, fun _ h => absurd h List.not_mem_nil⟩⟩⟩⟩) XST_M_ok
def wM_stuck_44 (f : Nat → Int32 → Int32 → XH → XR) : List Value → List Value → XH → XR := fun vs st h => match vs, st with
  | [.ref a0, .int x2], [.int s0] => f a0 x2 s0 h
  | _, _ => none
def wM_stuck_8 (f : Nat → Int32 → Int32 → XH → XR) : List Value → List Value → XH → XR := fun vs st h => match vs, st with
  | [.ref a0, .int x1, .int x2], [] => f a0 x1 x2 h
  | _, _ => none
def wM_stuck (f : Nat → XH → XR) : List Value → List Value → XH → XR := fun vs st h => match vs, st with
  | [.ref a0], [] => f a0 h
  | _, _ => none
set_option maxRecDepth 100000 in
theorem eM_stuck_44 (k8 : Nat → Int32 → Int32 → XH → XR) (a0 : Nat) (x2 : Int32) (s0 : Int32) (h : XH) : qM_stuck_44 k8 a0 x2 s0 h = xrun BM_stuck (xfind [(8, ([0, 1, 2], wM_stuck_8 (k8)))]) 34 44 (List.zip [0, 2] [.ref a0, .int x2]) [.int s0] h := rfl
theorem tM_stuck_44 {k8 : Nat → Int32 → Int32 → XH → XR} (hk8 : XTo cX9_stuck 3 RX9 1 6 138 8 [0, 1, 2] (wM_stuck_8 k8)) : XTo cX9_stuck 3 RX9 1 6 138 44 [0, 2] (wM_stuck_44 (qM_stuck_44 k8)) := by
  refine XTo.run (B := BM_stuck) (cut := xfind [(8, ([0, 1, 2], wM_stuck_8 (k8)))]) kM_stuck (xcuts_ok (List.forall_mem_cons.mpr ⟨hk8, fun _ h => absurd h List.not_mem_nil⟩)) 34 (fun vs st h r hr => ?_)
  unfold wM_stuck_44 at hr
  split at hr
  · exact (eM_stuck_44 k8 _ _ _ _).symm.trans hr
  · cases hr
set_option maxRecDepth 100000 in
theorem eM_stuck_8_b (k8 : Nat → Int32 → Int32 → XH → XR) (a0 : Nat) (x1 : Int32) (x2 : Int32) (h : XH) : qM_stuck_8_b k8 a0 x1 x2 h = xrun BM_stuck (xfind [(8, ([0, 1, 2], wM_stuck_8 (k8))), (44, ([0, 2], wM_stuck_44 (qM_stuck_44 k8)))]) 34 8 (List.zip [0, 1, 2] [.ref a0, .int x1, .int x2]) [] h := rfl
theorem tM_stuck_8_b {k8 : Nat → Int32 → Int32 → XH → XR} (hk8 : XTo cX9_stuck 3 RX9 1 6 138 8 [0, 1, 2] (wM_stuck_8 k8)) : XTo cX9_stuck 3 RX9 1 6 138 8 [0, 1, 2] (wM_stuck_8 (qM_stuck_8_b k8)) := by
  refine XTo.run (B := BM_stuck) (cut := xfind [(8, ([0, 1, 2], wM_stuck_8 (k8))), (44, ([0, 2], wM_stuck_44 (qM_stuck_44 k8)))]) kM_stuck (xcuts_ok (List.forall_mem_cons.mpr ⟨hk8, List.forall_mem_cons.mpr ⟨tM_stuck_44 hk8, fun _ h => absurd h List.not_mem_nil⟩⟩)) 34 (fun vs st h r hr => ?_)
  unfold wM_stuck_8 at hr
  split at hr
  · exact (eM_stuck_8_b k8 _ _ _ _).symm.trans hr
  · cases hr
theorem tM_stuck_8 : ∀ n : Nat, XTo cX9_stuck 3 RX9 1 6 138 8 [0, 1, 2] (wM_stuck_8 (qM_stuck_8 n)) := by
  intro n
  induction n with
  | zero =>
    refine XTo.none fun vs st h => ?_
    unfold wM_stuck_8
    split <;> rfl
  | succ n ih => exact tM_stuck_8_b  ih
set_option maxRecDepth 100000 in
theorem eM_stuck (a0 : Nat) (h : XH) : qM_stuck a0 h = xrun BM_stuck (xfind [(8, ([0, 1, 2], wM_stuck_8 (qM_stuck_8 LF)))]) 34 0 (List.zip [0] [.ref a0]) [] h := rfl
theorem tM_stuck : XTo cX9_stuck 3 RX9 1 6 138 0 [0] (wM_stuck (qM_stuck)) := by
  refine XTo.run (B := BM_stuck) (cut := xfind [(8, ([0, 1, 2], wM_stuck_8 (qM_stuck_8 LF)))]) kM_stuck (xcuts_ok (List.forall_mem_cons.mpr ⟨tM_stuck_8 LF, fun _ h => absurd h List.not_mem_nil⟩)) 34 (fun vs st h r hr => ?_)
  unfold wM_stuck at hr
  split at hr
  · exact (eM_stuck _ _).symm.trans hr
  · cases hr
def FM_stuck : List Value → XH → XR := fun vs h => match vs with
  | [.ref a0] => qM_stuck a0 h
  | _ => none
theorem SM_stuck : XS yX9_stuck cX9_stuck 3 (some .int) (xrm 6 138) FM_stuck := by
  refine XS.of (own := RX9) (by decide) rfl (rk := 1) rfl (tM_stuck) (fun vs h r hr => ?_)
  unfold FM_stuck at hr
  split at hr
  · exact ⟨rfl, Nat.le_of_ble_eq_true rfl, hr⟩
  · cases hr
