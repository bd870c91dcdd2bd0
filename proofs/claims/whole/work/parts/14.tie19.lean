-- LineDiagramModel.wayOfStation(II)I
def rM_wayOfStation : List (Nat × XRow) := [(0, (.aload_n 0, 1, 0, .null, [])),
  (1, (.iload_n 1, 2, 1, .null, [])),
  (2, (.iload_n 2, 3, 2, .null, [])),
  (3, (.invokevirtual 148, 6, 148, .null, [])),
  (6, (.istore_n 3, 7, 3, .null, [])),
  (7, (.aload_n 0, 8, 0, .null, [])),
  (8, (.getfield 40, 11, 40, .null, [])),
  (11, (.sipush 400, 14, 0, .int (400 : Int32), [])),
  (14, (.iload_n 1, 15, 1, .null, [])),
  (15, (.imul, 16, 0, .null, [])),
  (16, (.iload_n 3, 17, 3, .null, [])),
  (17, (.ifCond .ne 7, 20, 24, .null, [])),
  (20, (.iconst 0, 21, 0, .int (0 : Int32), [])),
  (21, (.goto 6, 24, 27, .null, [])),
  (24, (.iload_n 3, 25, 3, .null, [])),
  (25, (.iconst 1, 26, 0, .int (1 : Int32), [])),
  (26, (.isub, 27, 0, .null, [])),
  (27, (.iadd, 28, 0, .null, [])),
  (28, (.iaload, 29, 0, .null, [])),
  (29, (.istore 4, 31, 4, .null, [])),
  (31, (.aload_n 0, 32, 0, .null, [])),
  (32, (.getfield 40, 35, 40, .null, [])),
  (35, (.sipush 400, 38, 0, .int (400 : Int32), [])),
  (38, (.iload_n 1, 39, 1, .null, [])),
  (39, (.imul, 40, 0, .null, [])),
  (40, (.iload_n 3, 41, 3, .null, [])),
  (41, (.ifCond .ne 7, 44, 48, .null, [])),
  (44, (.iconst 1, 45, 0, .int (1 : Int32), [])),
  (45, (.goto 4, 48, 49, .null, [])),
  (48, (.iload_n 3, 49, 3, .null, [])),
  (49, (.iadd, 50, 0, .null, [])),
  (50, (.iaload, 51, 0, .null, [])),
  (51, (.istore 5, 53, 5, .null, [])),
  (53, (.iload 4, 55, 4, .null, [])),
  (55, (.bipush 40, 57, 0, .int (40 : Int32), [])),
  (57, (.irem, 58, 0, .null, [])),
  (58, (.iload 4, 60, 4, .null, [])),
  (60, (.bipush 40, 62, 0, .int (40 : Int32), [])),
  (62, (.idiv, 63, 0, .null, [])),
  (63, (.iload 5, 65, 5, .null, [])),
  (65, (.bipush 40, 67, 0, .int (40 : Int32), [])),
  (67, (.irem, 68, 0, .null, [])),
  (68, (.iload 5, 70, 5, .null, [])),
  (70, (.bipush 40, 72, 0, .int (40 : Int32), [])),
  (72, (.idiv, 73, 0, .null, [])),
  (73, (.invokestatic 126, 76, 126, .null, [])),
  (76, (.ireturn, 77, 0, .null, []))]
def mM_wayOfStation : List (Nat × XM) := [(126, (4, 1, none, FM_wayTo)), (148, (3, 1, some 9, FM_stepsTo))]
abbrev BM_wayOfStation : XB := (rM_wayOfStation, XFT_M, mM_wayOfStation, 1, XST_M)
set_option maxRecDepth 100000 in
theorem kM_wayOfStation : XOK BM_wayOfStation cX9_wayOfStation 6 RX9 2 46 := xok_of (cps := []) (K := XKT_M) (by decide +kernel) XKT_M_ok (fun _ h => absurd h List.not_mem_nil) XFT_M_ok (List.forall_mem_cons.mpr ⟨⟨_, _, _, _, _, _, SM_wayTo, Nat.le_of_ble_eq_true rfl, Nat.le_of_ble_eq_true rfl, cdM_wayTo, lkM_126, imM_wayTo, inM_wayTo, pmM_wayTo⟩, List.forall_mem_cons.mpr ⟨⟨_, _, _, _, _, _, _, SM_stepsTo, rfl, rfl, Nat.le_of_ble_eq_true rfl, Nat.le_of_ble_eq_true rfl, cdM_stepsTo, lkM_148, imM_stepsTo, slM_stepsTo, inM_stepsTo, pmM_stepsTo⟩, fun _ h => absurd h List.not_mem_nil⟩⟩) XST_M_ok
def wM_wayOfStation_49 (f : Int32 → Int32 → Int32 → Nat → XH → XR) : List Value → List Value → XH → XR := fun vs st h => match vs, st with
  | [.int x4], [.int s0, .int s1, .ref s2] => f x4 s0 s1 s2 h
  | _, _ => none
def wM_wayOfStation_27 (f : Nat → Int32 → Int32 → Int32 → Int32 → Nat → XH → XR) : List Value → List Value → XH → XR := fun vs st h => match vs, st with
  | [.ref a0, .int x1, .int x3], [.int s0, .int s1, .ref s2] => f a0 x1 x3 s0 s1 s2 h
  | _, _ => none
def wM_wayOfStation (f : Nat → Int32 → Int32 → XH → XR) : List Value → List Value → XH → XR := fun vs st h => match vs, st with
  | [.ref a0, .int x1, .int x2], [] => f a0 x1 x2 h
  | _, _ => none
set_option maxRecDepth 100000 in
theorem eM_wayOfStation_49 (x4 : Int32) (s0 : Int32) (s1 : Int32) (s2 : Nat) (h : XH) : qM_wayOfStation_49 x4 s0 s1 s2 h = xrun BM_wayOfStation (xfind []) 50 49 (List.zip [4] [.int x4]) [.int s0, .int s1, .ref s2] h := rfl
theorem tM_wayOfStation_49 : XTo cX9_wayOfStation 6 RX9 1 2 46 49 [4] (wM_wayOfStation_49 (qM_wayOfStation_49)) := by
  refine XTo.run (B := BM_wayOfStation) (cut := xfind []) kM_wayOfStation (xcuts_ok (fun _ h => absurd h List.not_mem_nil)) 50 (fun vs st h r hr => ?_)
  unfold wM_wayOfStation_49 at hr
  split at hr
  · exact (eM_wayOfStation_49 _ _ _ _ _).symm.trans hr
  · cases hr
set_option maxRecDepth 100000 in
theorem eM_wayOfStation_27 (a0 : Nat) (x1 : Int32) (x3 : Int32) (s0 : Int32) (s1 : Int32) (s2 : Nat) (h : XH) : qM_wayOfStation_27 a0 x1 x3 s0 s1 s2 h = xrun BM_wayOfStation (xfind [(49, ([4], wM_wayOfStation_49 (qM_wayOfStation_49)))]) 50 27 (List.zip [0, 1, 3] [.ref a0, .int x1, .int x3]) [.int s0, .int s1, .ref s2] h := rfl
theorem tM_wayOfStation_27 : XTo cX9_wayOfStation 6 RX9 1 2 46 27 [0, 1, 3] (wM_wayOfStation_27 (qM_wayOfStation_27)) := by
  refine XTo.run (B := BM_wayOfStation) (cut := xfind [(49, ([4], wM_wayOfStation_49 (qM_wayOfStation_49)))]) kM_wayOfStation (xcuts_ok (List.forall_mem_cons.mpr ⟨tM_wayOfStation_49, fun _ h => absurd h List.not_mem_nil⟩)) 50 (fun vs st h r hr => ?_)
  unfold wM_wayOfStation_27 at hr
  split at hr
  · exact (eM_wayOfStation_27 _ _ _ _ _ _ _).symm.trans hr
  · cases hr
set_option maxRecDepth 100000 in
theorem eM_wayOfStation (a0 : Nat) (x1 : Int32) (x2 : Int32) (h : XH) : qM_wayOfStation a0 x1 x2 h = xrun BM_wayOfStation (xfind [(27, ([0, 1, 3], wM_wayOfStation_27 (qM_wayOfStation_27)))]) 50 0 (List.zip [0, 1, 2] [.ref a0, .int x1, .int x2]) [] h := rfl
theorem tM_wayOfStation : XTo cX9_wayOfStation 6 RX9 1 2 46 0 [0, 1, 2] (wM_wayOfStation (qM_wayOfStation)) := by
  refine XTo.run (B := BM_wayOfStation) (cut := xfind [(27, ([0, 1, 3], wM_wayOfStation_27 (qM_wayOfStation_27)))]) kM_wayOfStation (xcuts_ok (List.forall_mem_cons.mpr ⟨tM_wayOfStation_27, fun _ h => absurd h List.not_mem_nil⟩)) 50 (fun vs st h r hr => ?_)
  unfold wM_wayOfStation at hr
  split at hr
  · exact (eM_wayOfStation _ _ _ _).symm.trans hr
  · cases hr
def FM_wayOfStation : List Value → XH → XR := fun vs h => match vs with
  | [.ref a0, .int x1, .int x2] => qM_wayOfStation a0 x1 x2 h
  | _ => none
theorem SM_wayOfStation : XS yX9_wayOfStation cX9_wayOfStation 6 (some .int) (xrm 2 46) FM_wayOfStation := by
  refine XS.of (own := RX9) (by decide) rfl (rk := 1) rfl (tM_wayOfStation) (fun vs h r hr => ?_)
  unfold FM_wayOfStation at hr
  split at hr
  · exact ⟨rfl, Nat.le_of_ble_eq_true rfl, hr⟩
  · cases hr
-- LineDiagramModel.station(III)I
def rM_station : List (Nat × XRow) := [(0, (.aload_n 0, 1, 0, .null, [])),
  (1, (.iload_n 1, 2, 1, .null, [])),
  (2, (.iload_n 2, 3, 2, .null, [])),
  (3, (.invokevirtual 374, 6, 374, .null, [])),
  (6, (.ifCond .ne 5, 9, 11, .null, [])),
  (9, (.iconst (-1), 10, 0, .int (-1 : Int32), [])),
  (10, (.ireturn, 11, 0, .null, [])),
  (11, (.aload_n 0, 12, 0, .null, [])),
  (12, (.invokevirtual 380, 15, 380, .null, [])),
  (15, (.aload_n 0, 16, 0, .null, [])),
  (16, (.iload_n 1, 17, 1, .null, [])),
  (17, (.iload_n 2, 18, 2, .null, [])),
  (18, (.invokevirtual 151, 21, 151, .null, [])),
  (21, (.istore 4, 23, 4, .null, [])),
  (23, (.iload_n 3, 24, 3, .null, [])),
  (24, (.tableswitch 81 0 5 #[40, 46, 52, 59, 66, 73], 64, 105, .null, [((0 : Int32), 64), ((1 : Int32), 70), ((2 : Int32), 76), ((3 : Int32), 83), ((4 : Int32), 90), ((5 : Int32), 97)])),
  (64, (.iload 4, 66, 4, .null, [])),
  (66, (.bipush 40, 68, 0, .int (40 : Int32), [])),
  (68, (.irem, 69, 0, .null, [])),
  (69, (.ireturn, 70, 0, .null, [])),
  (70, (.iload 4, 72, 4, .null, [])),
  (72, (.bipush 40, 74, 0, .int (40 : Int32), [])),
  (74, (.idiv, 75, 0, .null, [])),
  (75, (.ireturn, 76, 0, .null, [])),
  (76, (.aload_n 0, 77, 0, .null, [])),
  (77, (.iload_n 1, 78, 1, .null, [])),
  (78, (.iload_n 2, 79, 2, .null, [])),
  (79, (.invokevirtual 148, 82, 148, .null, [])),
  (82, (.ireturn, 83, 0, .null, [])),
  (83, (.aload_n 0, 84, 0, .null, [])),
  (84, (.iload_n 1, 85, 1, .null, [])),
  (85, (.iload_n 2, 86, 2, .null, [])),
  (86, (.invokevirtual 439, 89, 439, .null, [])),
  (89, (.ireturn, 90, 0, .null, [])),
  (90, (.aload_n 0, 91, 0, .null, [])),
  (91, (.iload_n 1, 92, 1, .null, [])),
  (92, (.iload_n 2, 93, 2, .null, [])),
  (93, (.invokevirtual 154, 96, 154, .null, [])),
  (96, (.ireturn, 97, 0, .null, [])),
  (97, (.aload_n 0, 98, 0, .null, [])),
  (98, (.getfield 49, 101, 49, .null, [])),
  (101, (.iload 4, 103, 4, .null, [])),
  (103, (.iaload, 104, 0, .null, [])),
  (104, (.ireturn, 105, 0, .null, [])),
  (105, (.iconst (-1), 106, 0, .int (-1 : Int32), [])),
  (106, (.ireturn, 107, 0, .null, []))]
def mM_station : List (Nat × XM) := [(148, (3, 1, some 9, FM_stepsTo)), (151, (3, 1, some 9, FM_cellOf)), (154, (3, 1, some 9, FM_longOfStation)), (374, (3, 1, some 9, FM_isStation)), (380, (1, 0, some 9, FM_lays)), (439, (3, 1, some 9, FM_wayOfStation))]
abbrev BM_station : XB := (rM_station, XFT_M, mM_station, 1, XST_M)
set_option maxRecDepth 100000 in
theorem kM_station : XOK BM_station cX9_station 5 RX9 6 138 := xok_of (cps := []) (K := XKT_M) (by decide +kernel) XKT_M_ok (fun _ h => absurd h List.not_mem_nil) XFT_M_ok (List.forall_mem_cons.mpr ⟨⟨_, _, _, _, _, _, _, SM_stepsTo, rfl, rfl, Nat.le_of_ble_eq_true rfl, Nat.le_of_ble_eq_true rfl, cdM_stepsTo, lkM_148, imM_stepsTo, slM_stepsTo, inM_stepsTo, pmM_stepsTo⟩, List.forall_mem_cons.mpr ⟨⟨_, _, _, _, _, _, _, SM_cellOf, rfl, rfl, Nat.le_of_ble_eq_true rfl, Nat.le_of_ble_eq_true rfl, cdM_cellOf, lkM_151, imM_cellOf, slM_cellOf, inM_cellOf, pmM_cellOf⟩, List.forall_mem_cons.mpr ⟨⟨_, _, _, _, _, _, _, SM_longOfStation, rfl, rfl, Nat.le_of_ble_eq_true rfl, Nat.le_of_ble_eq_true rfl, cdM_longOfStation, lkM_154, imM_longOfStation, slM_longOfStation, inM_longOfStation, pmM_longOfStation⟩, List.forall_mem_cons.mpr ⟨⟨_, _, _, _, _, _, _, SM_isStation, rfl, rfl, Nat.le_of_ble_eq_true rfl, Nat.le_of_ble_eq_true rfl, cdM_isStation, lkM_374, imM_isStation, slM_isStation, inM_isStation, pmM_isStation⟩, List.forall_mem_cons.mpr ⟨⟨_, _, _, _, _, _, _, SM_lays, rfl, rfl, Nat.le_of_ble_eq_true rfl, Nat.le_of_ble_eq_true rfl, cdM_lays, lkM_380, imM_lays, slM_lays, inM_lays, pmM_lays⟩, List.forall_mem_cons.mpr ⟨⟨_, _, _, _, _, _, _, SM_wayOfStation, rfl, rfl, Nat.le_of_ble_eq_true rfl, Nat.le_of_ble_eq_true rfl, cdM_wayOfStation, lkM_439, imM_wayOfStation, slM_wayOfStation, inM_wayOfStation, pmM_wayOfStation⟩, fun _ h => absurd h List.not_mem_nil⟩⟩⟩⟩⟩⟩) XST_M_ok
def wM_station (f : Nat → Int32 → Int32 → Int32 → XH → XR) : List Value → List Value → XH → XR := fun vs st h => match vs, st with
  | [.ref a0, .int x1, .int x2, .int x3], [] => f a0 x1 x2 x3 h
  | _, _ => none
set_option maxRecDepth 100000 in
theorem eM_station (a0 : Nat) (x1 : Int32) (x2 : Int32) (x3 : Int32) (h : XH) : qM_station a0 x1 x2 x3 h = xrun BM_station (xfind []) 49 0 (List.zip [0, 1, 2, 3] [.ref a0, .int x1, .int x2, .int x3]) [] h := rfl
theorem tM_station : XTo cX9_station 5 RX9 1 6 138 0 [0, 1, 2, 3] (wM_station (qM_station)) := by
  refine XTo.run (B := BM_station) (cut := xfind []) kM_station (xcuts_ok (fun _ h => absurd h List.not_mem_nil)) 49 (fun vs st h r hr => ?_)
  unfold wM_station at hr
  split at hr
  · exact (eM_station _ _ _ _ _).symm.trans hr
  · cases hr
def FM_station : List Value → XH → XR := fun vs h => match vs with
  | [.ref a0, .int x1, .int x2, .int x3] => qM_station a0 x1 x2 x3 h
  | _ => none
theorem SM_station : XS yX9_station cX9_station 5 (some .int) (xrm 6 138) FM_station := by
  refine XS.of (own := RX9) (by decide) rfl (rk := 1) rfl (tM_station) (fun vs h r hr => ?_)
  unfold FM_station at hr
  split at hr
  · exact ⟨rfl, Nat.le_of_ble_eq_true rfl, hr⟩
  · cases hr
-- LineDiagram.at(II)I
def rD_at : List (Nat × XRow) := [(0, (.aload_n 0, 1, 0, .null, [])),
  (1, (.iload_n 1, 2, 1, .null, [])),
  (2, (.iload_n 2, 3, 2, .null, [])),
  (3, (.invokevirtual 119, 6, 119, .null, [])),
  (6, (.ifCond .ne 5, 9, 11, .null, [])),
  (9, (.iconst (-1), 10, 0, .int (-1 : Int32), [])),
  (10, (.ireturn, 11, 0, .null, [])),
  (11, (.iload_n 1, 12, 1, .null, [])),
  (12, (.iload_n 2, 13, 2, .null, [])),
  (13, (.invokestatic 284, 16, 284, .null, [])),
  (16, (.istore_n 3, 17, 3, .null, [])),
  (17, (.aload_n 0, 18, 0, .null, [])),
  (18, (.getfield 54, 21, 54, .null, [])),
  (21, (.getfield 281, 24, 281, .null, [])),
  (24, (.iload_n 3, 25, 3, .null, [])),
  (25, (.iaload, 26, 0, .null, [])),
  (26, (.ifCond .le 5, 29, 31, .null, [])),
  (29, (.iconst 3, 30, 0, .int (3 : Int32), [])),
  (30, (.ireturn, 31, 0, .null, [])),
  (31, (.aload_n 0, 32, 0, .null, [])),
  (32, (.getfield 54, 35, 54, .null, [])),
  (35, (.getfield 287, 38, 287, .null, [])),
  (38, (.iload_n 3, 39, 3, .null, [])),
  (39, (.iaload, 40, 0, .null, [])),
  (40, (.ifCond .eq 5, 43, 45, .null, [])),
  (43, (.iconst 2, 44, 0, .int (2 : Int32), [])),
  (44, (.ireturn, 45, 0, .null, [])),
  (45, (.aload_n 0, 46, 0, .null, [])),
  (46, (.getfield 54, 49, 54, .null, [])),
  (49, (.getfield 289, 52, 289, .null, [])),
  (52, (.iload_n 3, 53, 3, .null, [])),
  (53, (.iaload, 54, 0, .null, [])),
  (54, (.ifCond .eq 7, 57, 61, .null, [])),
  (57, (.iconst 1, 58, 0, .int (1 : Int32), [])),
  (58, (.goto 4, 61, 62, .null, [])),
  (61, (.iconst 0, 62, 0, .int (0 : Int32), [])),
  (62, (.ireturn, 63, 0, .null, []))]
def mD_at : List (Nat × XM) := [(119, (3, 1, some 8, FD_isCell)), (284, (2, 1, none, FD_cellAt))]
abbrev BD_at : XB := (rD_at, XFT_D, mD_at, 1, XST_D)
set_option maxRecDepth 100000 in
theorem kD_at : XOK BD_at cX8_at 4 RX8 1 22 := xok_of (cps := []) (K := XKT_D) (by decide +kernel) XKT_D_ok (fun _ h => absurd h List.not_mem_nil) XFT_D_ok (List.forall_mem_cons.mpr ⟨⟨_, _, _, _, _, _, _, SD_isCell, rfl, rfl, Nat.le_of_ble_eq_true rfl, Nat.le_of_ble_eq_true rfl, cdD_isCell, lkD_119, imD_isCell, slD_isCell, inD_isCell, pmD_isCell⟩, List.forall_mem_cons.mpr ⟨⟨_, _, _, _, _, _, SD_cellAt, Nat.le_of_ble_eq_true rfl, Nat.le_of_ble_eq_true rfl, cdD_cellAt, lkD_284, imD_cellAt, inD_cellAt, pmD_cellAt⟩, fun _ h => absurd h List.not_mem_nil⟩⟩) XST_D_ok
def wD_at (f : Nat → Int32 → Int32 → XH → XR) : List Value → List Value → XH → XR := fun vs st h => match vs, st with
  | [.ref a0, .int x1, .int x2], [] => f a0 x1 x2 h
  | _, _ => none
set_option maxRecDepth 100000 in
theorem eD_at (a0 : Nat) (x1 : Int32) (x2 : Int32) (h : XH) : qD_at a0 x1 x2 h = xrun BD_at (xfind []) 40 0 (List.zip [0, 1, 2] [.ref a0, .int x1, .int x2]) [] h := rfl
theorem tD_at : XTo cX8_at 4 RX8 1 1 22 0 [0, 1, 2] (wD_at (qD_at)) := by
  refine XTo.run (B := BD_at) (cut := xfind []) kD_at (xcuts_ok (fun _ h => absurd h List.not_mem_nil)) 40 (fun vs st h r hr => ?_)
  unfold wD_at at hr
  split at hr
  · exact (eD_at _ _ _ _).symm.trans hr
  · cases hr
def FD_at : List Value → XH → XR := fun vs h => match vs with
  | [.ref a0, .int x1, .int x2] => qD_at a0 x1 x2 h
  | _ => none
theorem SD_at : XS yX8_at cX8_at 4 (some .int) (xrm 1 22) FD_at := by
  refine XS.of (own := RX8) (by decide) rfl (rk := 1) rfl (tD_at) (fun vs h r hr => ?_)
  unfold FD_at at hr
  split at hr
  · exact ⟨rfl, Nat.le_of_ble_eq_true rfl, hr⟩
  · cases hr
-- LineDiagramModel.at(II)I
def rM_at : List (Nat × XRow) := [(0, (.aload_n 0, 1, 0, .null, [])),
  (1, (.iload_n 1, 2, 1, .null, [])),
  (2, (.iload_n 2, 3, 2, .null, [])),
  (3, (.invokevirtual 346, 6, 346, .null, [])),
  (6, (.ifCond .ne 5, 9, 11, .null, [])),
  (9, (.iconst (-1), 10, 0, .int (-1 : Int32), [])),
  (10, (.ireturn, 11, 0, .null, [])),
  (11, (.aload_n 0, 12, 0, .null, [])),
  (12, (.invokevirtual 380, 15, 380, .null, [])),
  (15, (.aload_n 0, 16, 0, .null, [])),
  (16, (.iload_n 1, 17, 1, .null, [])),
  (17, (.iload_n 2, 18, 2, .null, [])),
  (18, (.invokestatic 145, 21, 145, .null, [])),
  (21, (.invokevirtual 414, 24, 414, .null, [])),
  (24, (.ireturn, 25, 0, .null, []))]
def mM_at : List (Nat × XM) := [(145, (2, 1, none, FM_cell)), (346, (3, 1, some 9, FM_isCell)), (380, (1, 0, some 9, FM_lays)), (414, (2, 1, some 9, FM_sortOf))]
abbrev BM_at : XB := (rM_at, XFT_M, mM_at, 1, XST_M)
set_option maxRecDepth 100000 in
theorem kM_at : XOK BM_at cX9_at 3 RX9 6 138 := xok_of (cps := []) (K := XKT_M) (by decide +kernel) XKT_M_ok (fun _ h => absurd h List.not_mem_nil) XFT_M_ok (List.forall_mem_cons.mpr ⟨⟨_, _, _, _, _, _, SM_cell, Nat.le_of_ble_eq_true rfl, Nat.le_of_ble_eq_true rfl, cdM_cell, lkM_145, imM_cell, inM_cell, pmM_cell⟩, List.forall_mem_cons.mpr ⟨⟨_, _, _, _, _, _, _, SM_isCell, rfl, rfl, Nat.le_of_ble_eq_true rfl, Nat.le_of_ble_eq_true rfl, cdM_isCell, lkM_346, imM_isCell, slM_isCell, inM_isCell, pmM_isCell⟩, List.forall_mem_cons.mpr ⟨⟨_, _, _, _, _, _, _, SM_lays, rfl, rfl, Nat.le_of_ble_eq_true rfl, Nat.le_of_ble_eq_true rfl, cdM_lays, lkM_380, imM_lays, slM_lays, inM_lays, pmM_lays⟩, List.forall_mem_cons.mpr ⟨⟨_, _, _, _, _, _, _, SM_sortOf, rfl, rfl, Nat.le_of_ble_eq_true rfl, Nat.le_of_ble_eq_true rfl, cdM_sortOf, lkM_414, imM_sortOf, slM_sortOf, inM_sortOf, pmM_sortOf⟩, fun _ h => absurd h List.not_mem_nil⟩⟩⟩⟩) XST_M_ok
def wM_at (f : Nat → Int32 → Int32 → XH → XR) : List Value → List Value → XH → XR := fun vs st h => match vs, st with
  | [.ref a0, .int x1, .int x2], [] => f a0 x1 x2 h
  | _, _ => none
set_option maxRecDepth 100000 in
theorem eM_at (a0 : Nat) (x1 : Int32) (x2 : Int32) (h : XH) : qM_at a0 x1 x2 h = xrun BM_at (xfind []) 18 0 (List.zip [0, 1, 2] [.ref a0, .int x1, .int x2]) [] h := rfl
theorem tM_at : XTo cX9_at 3 RX9 1 6 138 0 [0, 1, 2] (wM_at (qM_at)) := by
  refine XTo.run (B := BM_at) (cut := xfind []) kM_at (xcuts_ok (fun _ h => absurd h List.not_mem_nil)) 18 (fun vs st h r hr => ?_)
  unfold wM_at at hr
  split at hr
  · exact (eM_at _ _ _ _).symm.trans hr
  · cases hr
def FM_at : List Value → XH → XR := fun vs h => match vs with
  | [.ref a0, .int x1, .int x2] => qM_at a0 x1 x2 h
  | _ => none
theorem SM_at : XS yX9_at cX9_at 3 (some .int) (xrm 6 138) FM_at := by
  refine XS.of (own := RX9) (by decide) rfl (rk := 1) rfl (tM_at) (fun vs h r hr => ?_)
  unfold FM_at at hr
  split at hr
  · exact ⟨rfl, Nat.le_of_ble_eq_true rfl, hr⟩
  · cases hr
-- LineDiagram.linesAt(II)I
def rD_linesAt : List (Nat × XRow) := [(0, (.aload_n 0, 1, 0, .null, [])),
  (1, (.iload_n 1, 2, 1, .null, [])),
  (2, (.iload_n 2, 3, 2, .null, [])),
  (3, (.invokevirtual 119, 6, 119, .null, [])),
  (6, (.ifCond .eq 19, 9, 25, .null, [])),
  (9, (.aload_n 0, 10, 0, .null, [])),
  (10, (.getfield 54, 13, 54, .null, [])),
  (13, (.getfield 287, 16, 287, .null, [])),
  (16, (.iload_n 1, 17, 1, .null, [])),
  (17, (.iload_n 2, 18, 2, .null, [])),
  (18, (.invokestatic 284, 21, 284, .null, [])),
  (21, (.iaload, 22, 0, .null, [])),
  (22, (.goto 4, 25, 26, .null, [])),
  (25, (.iconst (-1), 26, 0, .int (-1 : Int32), [])),
  (26, (.ireturn, 27, 0, .null, []))]
def mD_linesAt : List (Nat × XM) := [(119, (3, 1, some 8, FD_isCell)), (284, (2, 1, none, FD_cellAt))]
abbrev BD_linesAt : XB := (rD_linesAt, XFT_D, mD_linesAt, 1, XST_D)
set_option maxRecDepth 100000 in
theorem kD_linesAt : XOK BD_linesAt cX8_linesAt 3 RX8 1 22 := xok_of (cps := []) (K := XKT_D) (by decide +kernel) XKT_D_ok (fun _ h => absurd h List.not_mem_nil) XFT_D_ok (List.forall_mem_cons.mpr ⟨⟨_, _, _, _, _, _, _, SD_isCell, rfl, rfl, Nat.le_of_ble_eq_true rfl, Nat.le_of_ble_eq_true rfl, cdD_isCell, lkD_119, imD_isCell, slD_isCell, inD_isCell, pmD_isCell⟩, List.forall_mem_cons.mpr ⟨⟨_, _, _, _, _, _, SD_cellAt, Nat.le_of_ble_eq_true rfl, Nat.le_of_ble_eq_true rfl, cdD_cellAt, lkD_284, imD_cellAt, inD_cellAt, pmD_cellAt⟩, fun _ h => absurd h List.not_mem_nil⟩⟩) XST_D_ok
def wD_linesAt (f : Nat → Int32 → Int32 → XH → XR) : List Value → List Value → XH → XR := fun vs st h => match vs, st with
  | [.ref a0, .int x1, .int x2], [] => f a0 x1 x2 h
  | _, _ => none
set_option maxRecDepth 100000 in
theorem eD_linesAt (a0 : Nat) (x1 : Int32) (x2 : Int32) (h : XH) : qD_linesAt a0 x1 x2 h = xrun BD_linesAt (xfind []) 18 0 (List.zip [0, 1, 2] [.ref a0, .int x1, .int x2]) [] h := rfl
theorem tD_linesAt : XTo cX8_linesAt 3 RX8 1 1 22 0 [0, 1, 2] (wD_linesAt (qD_linesAt)) := by
  refine XTo.run (B := BD_linesAt) (cut := xfind []) kD_linesAt (xcuts_ok (fun _ h => absurd h List.not_mem_nil)) 18 (fun vs st h r hr => ?_)
  unfold wD_linesAt at hr
  split at hr
  · exact (eD_linesAt _ _ _ _).symm.trans hr
  · cases hr
def FD_linesAt : List Value → XH → XR := fun vs h => match vs with
  | [.ref a0, .int x1, .int x2] => qD_linesAt a0 x1 x2 h
  | _ => none
theorem SD_linesAt : XS yX8_linesAt cX8_linesAt 3 (some .int) (xrm 1 22) FD_linesAt := by
  refine XS.of (own := RX8) (by decide) rfl (rk := 1) rfl (tD_linesAt) (fun vs h r hr => ?_)
  unfold FD_linesAt at hr
  split at hr
  · exact ⟨rfl, Nat.le_of_ble_eq_true rfl, hr⟩
  · cases hr
-- LineDiagramModel.linesAt(II)I
def rM_linesAt : List (Nat × XRow) := [(0, (.aload_n 0, 1, 0, .null, [])),
  (1, (.iload_n 1, 2, 1, .null, [])),
  (2, (.iload_n 2, 3, 2, .null, [])),
  (3, (.invokevirtual 346, 6, 346, .null, [])),
  (6, (.ifCond .ne 5, 9, 11, .null, [])),
  (9, (.iconst (-1), 10, 0, .int (-1 : Int32), [])),
  (10, (.ireturn, 11, 0, .null, [])),
  (11, (.aload_n 0, 12, 0, .null, [])),
  (12, (.invokevirtual 380, 15, 380, .null, [])),
  (15, (.aload_n 0, 16, 0, .null, [])),
  (16, (.getfield 43, 19, 43, .null, [])),
  (19, (.iload_n 1, 20, 1, .null, [])),
  (20, (.iload_n 2, 21, 2, .null, [])),
  (21, (.invokestatic 145, 24, 145, .null, [])),
  (24, (.iaload, 25, 0, .null, [])),
  (25, (.ireturn, 26, 0, .null, []))]
def mM_linesAt : List (Nat × XM) := [(145, (2, 1, none, FM_cell)), (346, (3, 1, some 9, FM_isCell)), (380, (1, 0, some 9, FM_lays))]
abbrev BM_linesAt : XB := (rM_linesAt, XFT_M, mM_linesAt, 1, XST_M)
set_option maxRecDepth 100000 in
theorem kM_linesAt : XOK BM_linesAt cX9_linesAt 3 RX9 6 138 := xok_of (cps := []) (K := XKT_M) (by decide +kernel) XKT_M_ok (fun _ h => absurd h List.not_mem_nil) XFT_M_ok (List.forall_mem_cons.mpr ⟨⟨_, _, _, _, _, _, SM_cell, Nat.le_of_ble_eq_true rfl, Nat.le_of_ble_eq_true rfl, cdM_cell, lkM_145, imM_cell, inM_cell, pmM_cell⟩, List.forall_mem_cons.mpr ⟨⟨_, _, _, _, _, _, _, SM_isCell, rfl, rfl, Nat.le_of_ble_eq_true rfl, Nat.le_of_ble_eq_true rfl, cdM_isCell, lkM_346, imM_isCell, slM_isCell, inM_isCell, pmM_isCell⟩, List.forall_mem_cons.mpr ⟨⟨_, _, _, _, _, _, _, SM_lays, rfl, rfl, Nat.le_of_ble_eq_true rfl, Nat.le_of_ble_eq_true rfl, cdM_lays, lkM_380, imM_lays, slM_lays, inM_lays, pmM_lays⟩, fun _ h => absurd h List.not_mem_nil⟩⟩⟩) XST_M_ok
def wM_linesAt (f : Nat → Int32 → Int32 → XH → XR) : List Value → List Value → XH → XR := fun vs st h => match vs, st with
  | [.ref a0, .int x1, .int x2], [] => f a0 x1 x2 h
  | _, _ => none
set_option maxRecDepth 100000 in
theorem eM_linesAt (a0 : Nat) (x1 : Int32) (x2 : Int32) (h : XH) : qM_linesAt a0 x1 x2 h = xrun BM_linesAt (xfind []) 19 0 (List.zip [0, 1, 2] [.ref a0, .int x1, .int x2]) [] h := rfl
theorem tM_linesAt : XTo cX9_linesAt 3 RX9 1 6 138 0 [0, 1, 2] (wM_linesAt (qM_linesAt)) := by
  refine XTo.run (B := BM_linesAt) (cut := xfind []) kM_linesAt (xcuts_ok (fun _ h => absurd h List.not_mem_nil)) 19 (fun vs st h r hr => ?_)
  unfold wM_linesAt at hr
  split at hr
  · exact (eM_linesAt _ _ _ _).symm.trans hr
  · cases hr
def FM_linesAt : List Value → XH → XR := fun vs h => match vs with
  | [.ref a0, .int x1, .int x2] => qM_linesAt a0 x1 x2 h
  | _ => none
theorem SM_linesAt : XS yX9_linesAt cX9_linesAt 3 (some .int) (xrm 6 138) FM_linesAt := by
  refine XS.of (own := RX9) (by decide) rfl (rk := 1) rfl (tM_linesAt) (fun vs h r hr => ?_)
  unfold FM_linesAt at hr
  split at hr
  · exact ⟨rfl, Nat.le_of_ble_eq_true rfl, hr⟩
  · cases hr
-- LineDiagram$Line.unevenness()I
def rLn_unevenness : List (Nat × XRow) := [(0, (.aload_n 0, 1, 0, .null, [])),
  (1, (.invokevirtual 65, 4, 65, .null, [])),
  (4, (.istore_n 1, 5, 1, .null, [])),
  (5, (.iconst 0, 6, 0, .int (0 : Int32), [])),
  (6, (.istore_n 2, 7, 2, .null, [])),
  (7, (.iload_n 1, 8, 1, .null, [])),
  (8, (.istore_n 3, 9, 3, .null, [])),
  (9, (.iconst 1, 10, 0, .int (1 : Int32), [])),
  (10, (.istore 4, 12, 4, .null, [])),
  (12, (.iload 4, 14, 4, .null, [])),
  (14, (.aload_n 0, 15, 0, .null, [])),
  (15, (.getfield 25, 18, 25, .null, [])),
  (18, (.if_icmp .ge 42, 21, 60, .null, [])),
  (21, (.aload_n 0, 22, 0, .null, [])),
  (22, (.iload 4, 24, 4, .null, [])),
  (24, (.iload_n 1, 25, 1, .null, [])),
  (25, (.invokevirtual 77, 28, 77, .null, [])),
  (28, (.aload_n 0, 29, 0, .null, [])),
  (29, (.iload 4, 31, 4, .null, [])),
  (31, (.iconst 1, 32, 0, .int (1 : Int32), [])),
  (32, (.isub, 33, 0, .null, [])),
  (33, (.iload_n 1, 34, 1, .null, [])),
  (34, (.invokevirtual 77, 37, 77, .null, [])),
  (37, (.isub, 38, 0, .null, [])),
  (38, (.istore 5, 40, 5, .null, [])),
  (40, (.iload_n 2, 41, 2, .null, [])),
  (41, (.iload 5, 43, 5, .null, [])),
  (43, (.invokestatic 49, 46, 49, .int (2 : Int32), [])),
  (46, (.istore_n 2, 47, 2, .null, [])),
  (47, (.iload_n 3, 48, 3, .null, [])),
  (48, (.iload 5, 50, 5, .null, [])),
  (50, (.invokestatic 59, 53, 59, .int (3 : Int32), [])),
  (53, (.istore_n 3, 54, 3, .null, [])),
  (54, (.iinc 4 1, 57, 4, .int (1 : Int32), [])),
  (57, (.goto (-45), 60, 12, .null, [])),
  (60, (.iload_n 2, 61, 2, .null, [])),
  (61, (.iload_n 3, 62, 3, .null, [])),
  (62, (.isub, 63, 0, .null, [])),
  (63, (.ireturn, 64, 0, .null, []))]
def mLn_unevenness : List (Nat × XM) := [(65, (1, 1, some 3, FLn_steps)), (77, (3, 1, some 3, FLn_stepOfStation))]
abbrev BLn_unevenness : XB := (rLn_unevenness, XFT_Ln, mLn_unevenness, 1, XST_Ln)
set_option maxRecDepth 100000 in
theorem kLn_unevenness : XOK BLn_unevenness cX3_unevenness 6 RX3 3 64 := xok_of (cps := [(49, 2), (59, 3)]) (K := XKT_Ln) (by decide +kernel) XKT_Ln_ok (List.forall_mem_cons.mpr ⟨lkLn_cp49 _ _ (Nat.le_of_ble_eq_true rfl) (Nat.le_of_ble_eq_true rfl), List.forall_mem_cons.mpr ⟨lkLn_cp59 _ _ (Nat.le_of_ble_eq_true rfl) (Nat.le_of_ble_eq_true rfl), fun _ h => absurd h List.not_mem_nil⟩⟩) XFT_Ln_ok (List.forall_mem_cons.mpr ⟨⟨_, _, _, _, _, _, _, SLn_steps, rfl, rfl, Nat.le_of_ble_eq_true rfl, Nat.le_of_ble_eq_true rfl, cdLn_steps, lkLn_65, imLn_steps, slLn_steps, inLn_steps, pmLn_steps⟩, List.forall_mem_cons.mpr ⟨⟨_, _, _, _, _, _, _, SLn_stepOfStation, rfl, rfl, Nat.le_of_ble_eq_true rfl, Nat.le_of_ble_eq_true rfl, cdLn_stepOfStation, lkLn_77, imLn_stepOfStation, slLn_stepOfStation, inLn_stepOfStation, pmLn_stepOfStation⟩, fun _ h => absurd h List.not_mem_nil⟩⟩) XST_Ln_ok
def wLn_unevenness_12 (f : Nat → Int32 → Int32 → Int32 → Int32 → XH → XR) : List Value → List Value → XH → XR := fun vs st h => match vs, st with
  | [.ref a0, .int x1, .int x2, .int x3, .int x4], [] => f a0 x1 x2 x3 x4 h
  | _, _ => none
def wLn_unevenness (f : Nat → XH → XR) : List Value → List Value → XH → XR := fun vs st h => match vs, st with
  | [.ref a0], [] => f a0 h
  | _, _ => none
set_option maxRecDepth 100000 in
theorem eLn_unevenness_12_b (k12 : Nat → Int32 → Int32 → Int32 → Int32 → XH → XR) (a0 : Nat) (x1 : Int32) (x2 : Int32) (x3 : Int32) (x4 : Int32) (h : XH) : qLn_unevenness_12_b k12 a0 x1 x2 x3 x4 h = xrun BLn_unevenness (xfind [(12, ([0, 1, 2, 3, 4], wLn_unevenness_12 (k12)))]) 42 12 (List.zip [0, 1, 2, 3, 4] [.ref a0, .int x1, .int x2, .int x3, .int x4]) [] h := rfl
theorem tLn_unevenness_12_b {k12 : Nat → Int32 → Int32 → Int32 → Int32 → XH → XR} (hk12 : XTo cX3_unevenness 6 RX3 1 3 64 12 [0, 1, 2, 3, 4] (wLn_unevenness_12 k12)) : XTo cX3_unevenness 6 RX3 1 3 64 12 [0, 1, 2, 3, 4] (wLn_unevenness_12 (qLn_unevenness_12_b k12)) := by
  refine XTo.run (B := BLn_unevenness) (cut := xfind [(12, ([0, 1, 2, 3, 4], wLn_unevenness_12 (k12)))]) kLn_unevenness (xcuts_ok (List.forall_mem_cons.mpr ⟨hk12, fun _ h => absurd h List.not_mem_nil⟩)) 42 (fun vs st h r hr => ?_)
  unfold wLn_unevenness_12 at hr
  split at hr
  · exact (eLn_unevenness_12_b k12 _ _ _ _ _ _).symm.trans hr
  · cases hr
theorem tLn_unevenness_12 : ∀ n : Nat, XTo cX3_unevenness 6 RX3 1 3 64 12 [0, 1, 2, 3, 4] (wLn_unevenness_12 (qLn_unevenness_12 n)) := by
  intro n
  induction n with
  | zero =>
    refine XTo.none fun vs st h => ?_
    unfold wLn_unevenness_12
    split <;> rfl
  | succ n ih => exact tLn_unevenness_12_b  ih
set_option maxRecDepth 100000 in
theorem eLn_unevenness (a0 : Nat) (h : XH) : qLn_unevenness a0 h = xrun BLn_unevenness (xfind [(12, ([0, 1, 2, 3, 4], wLn_unevenness_12 (qLn_unevenness_12 LF)))]) 42 0 (List.zip [0] [.ref a0]) [] h := rfl
theorem tLn_unevenness : XTo cX3_unevenness 6 RX3 1 3 64 0 [0] (wLn_unevenness (qLn_unevenness)) := by
  refine XTo.run (B := BLn_unevenness) (cut := xfind [(12, ([0, 1, 2, 3, 4], wLn_unevenness_12 (qLn_unevenness_12 LF)))]) kLn_unevenness (xcuts_ok (List.forall_mem_cons.mpr ⟨tLn_unevenness_12 LF, fun _ h => absurd h List.not_mem_nil⟩)) 42 (fun vs st h r hr => ?_)
  unfold wLn_unevenness at hr
  split at hr
  · exact (eLn_unevenness _ _).symm.trans hr
  · cases hr
def FLn_unevenness : List Value → XH → XR := fun vs h => match vs with
  | [.ref a0] => qLn_unevenness a0 h
  | _ => none
theorem SLn_unevenness : XS yX3_unevenness cX3_unevenness 6 (some .int) (xrm 3 64) FLn_unevenness := by
  refine XS.of (own := RX3) (by decide) rfl (rk := 1) rfl (tLn_unevenness) (fun vs h r hr => ?_)
  unfold FLn_unevenness at hr
  split at hr
  · exact ⟨rfl, Nat.le_of_ble_eq_true rfl, hr⟩
  · cases hr
-- LineDiagram.uneven(I)I
def rD_uneven : List (Nat × XRow) := [(0, (.aload_n 0, 1, 0, .null, [])),
  (1, (.iload_n 1, 2, 1, .null, [])),
  (2, (.invokevirtual 115, 5, 115, .null, [])),
  (5, (.ifCond .eq 18, 8, 23, .null, [])),
  (8, (.aload_n 0, 9, 0, .null, [])),
  (9, (.getfield 29, 12, 29, .null, [])),
  (12, (.getfield 123, 15, 123, .null, [])),
  (15, (.iload_n 1, 16, 1, .null, [])),
  (16, (.aaload, 17, 0, .null, [])),
  (17, (.invokevirtual 291, 20, 291, .null, [])),
  (20, (.goto 4, 23, 24, .null, [])),
  (23, (.iconst (-1), 24, 0, .int (-1 : Int32), [])),
  (24, (.ireturn, 25, 0, .null, []))]
def mD_uneven : List (Nat × XM) := [(115, (2, 1, some 8, FD_isLine)), (291, (1, 1, some 3, FLn_unevenness))]
abbrev BD_uneven : XB := (rD_uneven, XFT_D, mD_uneven, 1, XST_D)
set_option maxRecDepth 100000 in
theorem kD_uneven : XOK BD_uneven cX8_uneven 2 RX8 4 89 := xok_of (cps := []) (K := XKT_D) (by decide +kernel) XKT_D_ok (fun _ h => absurd h List.not_mem_nil) XFT_D_ok (List.forall_mem_cons.mpr ⟨⟨_, _, _, _, _, _, _, SD_isLine, rfl, rfl, Nat.le_of_ble_eq_true rfl, Nat.le_of_ble_eq_true rfl, cdD_isLine, lkD_115, imD_isLine, slD_isLine, inD_isLine, pmD_isLine⟩, List.forall_mem_cons.mpr ⟨⟨_, _, _, _, _, _, _, SLn_unevenness, rfl, rfl, Nat.le_of_ble_eq_true rfl, Nat.le_of_ble_eq_true rfl, cdLn_unevenness, lkD_291, imLn_unevenness, slLn_unevenness, inLn_unevenness, pmLn_unevenness⟩, fun _ h => absurd h List.not_mem_nil⟩⟩) XST_D_ok
def wD_uneven (f : Nat → Int32 → XH → XR) : List Value → List Value → XH → XR := fun vs st h => match vs, st with
  | [.ref a0, .int x1], [] => f a0 x1 h
  | _, _ => none
set_option maxRecDepth 100000 in
theorem eD_uneven (a0 : Nat) (x1 : Int32) (h : XH) : qD_uneven a0 x1 h = xrun BD_uneven (xfind []) 16 0 (List.zip [0, 1] [.ref a0, .int x1]) [] h := rfl
theorem tD_uneven : XTo cX8_uneven 2 RX8 1 4 89 0 [0, 1] (wD_uneven (qD_uneven)) := by
  refine XTo.run (B := BD_uneven) (cut := xfind []) kD_uneven (xcuts_ok (fun _ h => absurd h List.not_mem_nil)) 16 (fun vs st h r hr => ?_)
  unfold wD_uneven at hr
  split at hr
  · exact (eD_uneven _ _ _).symm.trans hr
  · cases hr
def FD_uneven : List Value → XH → XR := fun vs h => match vs with
  | [.ref a0, .int x1] => qD_uneven a0 x1 h
  | _ => none
theorem SD_uneven : XS yX8_uneven cX8_uneven 2 (some .int) (xrm 4 89) FD_uneven := by
  refine XS.of (own := RX8) (by decide) rfl (rk := 1) rfl (tD_uneven) (fun vs h r hr => ?_)
  unfold FD_uneven at hr
  split at hr
  · exact ⟨rfl, Nat.le_of_ble_eq_true rfl, hr⟩
  · cases hr
-- LineDiagramModel.uneven(I)I
def rM_uneven : List (Nat × XRow) := [(0, (.aload_n 0, 1, 0, .null, [])),
  (1, (.iload_n 1, 2, 1, .null, [])),
  (2, (.invokevirtual 103, 5, 103, .null, [])),
  (5, (.ifCond .ne 5, 8, 10, .null, [])),
  (8, (.iconst (-1), 9, 0, .int (-1 : Int32), [])),
  (9, (.ireturn, 10, 0, .null, [])),
  (10, (.aload_n 0, 11, 0, .null, [])),
  (11, (.invokevirtual 380, 14, 380, .null, [])),
  (14, (.ldc_w 442, 17, 442, .int (1000000 : Int32), [])),
  (17, (.istore_n 2, 18, 2, .null, [])),
  (18, (.iconst 0, 19, 0, .int (0 : Int32), [])),
  (19, (.istore_n 3, 20, 3, .null, [])),
  (20, (.iconst 1, 21, 0, .int (1 : Int32), [])),
  (21, (.istore 4, 23, 4, .null, [])),
  (23, (.iload 4, 25, 4, .null, [])),
  (25, (.aload_n 0, 26, 0, .null, [])),
  (26, (.iload_n 1, 27, 1, .null, [])),
  (27, (.iconst 1, 28, 0, .int (1 : Int32), [])),
  (28, (.invokevirtual 88, 31, 88, .null, [])),
  (31, (.if_icmp .ge 54, 34, 85, .null, [])),
  (34, (.aload_n 0, 35, 0, .null, [])),
  (35, (.iload_n 1, 36, 1, .null, [])),
  (36, (.iload 4, 38, 4, .null, [])),
  (38, (.invokevirtual 148, 41, 148, .null, [])),
  (41, (.aload_n 0, 42, 0, .null, [])),
  (42, (.iload_n 1, 43, 1, .null, [])),
  (43, (.iload 4, 45, 4, .null, [])),
  (45, (.iconst 1, 46, 0, .int (1 : Int32), [])),
  (46, (.isub, 47, 0, .null, [])),
  (47, (.invokevirtual 148, 50, 148, .null, [])),
  (50, (.isub, 51, 0, .null, [])),
  (51, (.istore 5, 53, 5, .null, [])),
  (53, (.iload 5, 55, 5, .null, [])),
  (55, (.iload_n 2, 56, 2, .null, [])),
  (56, (.if_icmp .ge 8, 59, 64, .null, [])),
  (59, (.iload 5, 61, 5, .null, [])),
  (61, (.goto 4, 64, 65, .null, [])),
  (64, (.iload_n 2, 65, 2, .null, [])),
  (65, (.istore_n 2, 66, 2, .null, [])),
  (66, (.iload 5, 68, 5, .null, [])),
  (68, (.iload_n 3, 69, 3, .null, [])),
  (69, (.if_icmp .le 8, 72, 77, .null, [])),
  (72, (.iload 5, 74, 5, .null, [])),
  (74, (.goto 4, 77, 78, .null, [])),
  (77, (.iload_n 3, 78, 3, .null, [])),
  (78, (.istore_n 3, 79, 3, .null, [])),
  (79, (.iinc 4 1, 82, 4, .int (1 : Int32), [])),
  (82, (.goto (-59), 85, 23, .null, [])),
  (85, (.iload_n 3, 86, 3, .null, [])),
  (86, (.iload_n 2, 87, 2, .null, [])),
  (87, (.isub, 88, 0, .null, [])),
  (88, (.ireturn, 89, 0, .null, []))]
def mM_uneven : List (Nat × XM) := [(88, (3, 1, some 9, FM_of)), (103, (2, 1, some 9, FM_isLine)), (148, (3, 1, some 9, FM_stepsTo)), (380, (1, 0, some 9, FM_lays))]
abbrev BM_uneven : XB := (rM_uneven, XFT_M, mM_uneven, 1, XST_M)
set_option maxRecDepth 100000 in
theorem kM_uneven : XOK BM_uneven cX9_uneven 6 RX9 6 138 := xok_of (cps := []) (K := XKT_M) (by decide +kernel) XKT_M_ok (fun _ h => absurd h List.not_mem_nil) XFT_M_ok (List.forall_mem_cons.mpr ⟨⟨_, _, _, _, _, _, _, SM_of, rfl, rfl, Nat.le_of_ble_eq_true rfl, Nat.le_of_ble_eq_true rfl, cdM_of, lkM_88, imM_of, slM_of, inM_of, pmM_of⟩, List.forall_mem_cons.mpr ⟨⟨_, _, _, _, _, _, _, SM_isLine, rfl, rfl, Nat.le_of_ble_eq_true rfl, Nat.le_of_ble_eq_true rfl, cdM_isLine, lkM_103, imM_isLine, slM_isLine, inM_isLine, pmM_isLine⟩, List.forall_mem_cons.mpr ⟨⟨_, _, _, _, _, _, _, SM_stepsTo, rfl, rfl, Nat.le_of_ble_eq_true rfl, Nat.le_of_ble_eq_true rfl, cdM_stepsTo, lkM_148, imM_stepsTo, slM_stepsTo, inM_stepsTo, pmM_stepsTo⟩, List.forall_mem_cons.mpr ⟨⟨_, _, _, _, _, _, _, SM_lays, rfl, rfl, Nat.le_of_ble_eq_true rfl, Nat.le_of_ble_eq_true rfl, cdM_lays, lkM_380, imM_lays, slM_lays, inM_lays, pmM_lays⟩, fun _ h => absurd h List.not_mem_nil⟩⟩⟩⟩) XST_M_ok
def wM_uneven_65 (f : Nat → Int32 → Int32 → Int32 → Int32 → Int32 → XH → XR) : List Value → List Value → XH → XR := fun vs st h => match vs, st with
  | [.ref a0, .int x1, .int x3, .int x4, .int x5], [.int s0] => f a0 x1 x3 x4 x5 s0 h
  | _, _ => none
def wM_uneven_23 (f : Nat → Int32 → Int32 → Int32 → Int32 → XH → XR) : List Value → List Value → XH → XR := fun vs st h => match vs, st with
  | [.ref a0, .int x1, .int x2, .int x3, .int x4], [] => f a0 x1 x2 x3 x4 h
  | _, _ => none
def wM_uneven (f : Nat → Int32 → XH → XR) : List Value → List Value → XH → XR := fun vs st h => match vs, st with
  | [.ref a0, .int x1], [] => f a0 x1 h
  | _, _ => none
set_option maxRecDepth 100000 in
theorem eM_uneven_65 (k23 : Nat → Int32 → Int32 → Int32 → Int32 → XH → XR) (a0 : Nat) (x1 : Int32) (x3 : Int32) (x4 : Int32) (x5 : Int32) (s0 : Int32) (h : XH) : qM_uneven_65 k23 a0 x1 x3 x4 x5 s0 h = xrun BM_uneven (xfind [(23, ([0, 1, 2, 3, 4], wM_uneven_23 (k23)))]) 55 65 (List.zip [0, 1, 3, 4, 5] [.ref a0, .int x1, .int x3, .int x4, .int x5]) [.int s0] h := rfl
theorem tM_uneven_65 {k23 : Nat → Int32 → Int32 → Int32 → Int32 → XH → XR} (hk23 : XTo cX9_uneven 6 RX9 1 6 138 23 [0, 1, 2, 3, 4] (wM_uneven_23 k23)) : XTo cX9_uneven 6 RX9 1 6 138 65 [0, 1, 3, 4, 5] (wM_uneven_65 (qM_uneven_65 k23)) := by
  refine XTo.run (B := BM_uneven) (cut := xfind [(23, ([0, 1, 2, 3, 4], wM_uneven_23 (k23)))]) kM_uneven (xcuts_ok (List.forall_mem_cons.mpr ⟨hk23, fun _ h => absurd h List.not_mem_nil⟩)) 55 (fun vs st h r hr => ?_)
  unfold wM_uneven_65 at hr
  split at hr
  · exact (eM_uneven_65 k23 _ _ _ _ _ _ _).symm.trans hr
  · cases hr
set_option maxRecDepth 100000 in
theorem eM_uneven_23_b (k23 : Nat → Int32 → Int32 → Int32 → Int32 → XH → XR) (a0 : Nat) (x1 : Int32) (x2 : Int32) (x3 : Int32) (x4 : Int32) (h : XH) : qM_uneven_23_b k23 a0 x1 x2 x3 x4 h = xrun BM_uneven (xfind [(65, ([0, 1, 3, 4, 5], wM_uneven_65 (qM_uneven_65 k23)))]) 55 23 (List.zip [0, 1, 2, 3, 4] [.ref a0, .int x1, .int x2, .int x3, .int x4]) [] h := rfl
theorem tM_uneven_23_b {k23 : Nat → Int32 → Int32 → Int32 → Int32 → XH → XR} (hk23 : XTo cX9_uneven 6 RX9 1 6 138 23 [0, 1, 2, 3, 4] (wM_uneven_23 k23)) : XTo cX9_uneven 6 RX9 1 6 138 23 [0, 1, 2, 3, 4] (wM_uneven_23 (qM_uneven_23_b k23)) := by
  refine XTo.run (B := BM_uneven) (cut := xfind [(65, ([0, 1, 3, 4, 5], wM_uneven_65 (qM_uneven_65 k23)))]) kM_uneven (xcuts_ok (List.forall_mem_cons.mpr ⟨tM_uneven_65 hk23, fun _ h => absurd h List.not_mem_nil⟩)) 55 (fun vs st h r hr => ?_)
  unfold wM_uneven_23 at hr
  split at hr
  · exact (eM_uneven_23_b k23 _ _ _ _ _ _).symm.trans hr
  · cases hr
theorem tM_uneven_23 : ∀ n : Nat, XTo cX9_uneven 6 RX9 1 6 138 23 [0, 1, 2, 3, 4] (wM_uneven_23 (qM_uneven_23 n)) := by
  intro n
  induction n with
  | zero =>
    refine XTo.none fun vs st h => ?_
    unfold wM_uneven_23
    split <;> rfl
  | succ n ih => exact tM_uneven_23_b  ih
set_option maxRecDepth 100000 in
theorem eM_uneven (a0 : Nat) (x1 : Int32) (h : XH) : qM_uneven a0 x1 h = xrun BM_uneven (xfind [(23, ([0, 1, 2, 3, 4], wM_uneven_23 (qM_uneven_23 LF)))]) 55 0 (List.zip [0, 1] [.ref a0, .int x1]) [] h := rfl
theorem tM_uneven : XTo cX9_uneven 6 RX9 1 6 138 0 [0, 1] (wM_uneven (qM_uneven)) := by
  refine XTo.run (B := BM_uneven) (cut := xfind [(23, ([0, 1, 2, 3, 4], wM_uneven_23 (qM_uneven_23 LF)))]) kM_uneven (xcuts_ok (List.forall_mem_cons.mpr ⟨tM_uneven_23 LF, fun _ h => absurd h List.not_mem_nil⟩)) 55 (fun vs st h r hr => ?_)
  unfold wM_uneven at hr
  split at hr
  · exact (eM_uneven _ _ _).symm.trans hr
  · cases hr
def FM_uneven : List Value → XH → XR := fun vs h => match vs with
  | [.ref a0, .int x1] => qM_uneven a0 x1 h
  | _ => none
theorem SM_uneven : XS yX9_uneven cX9_uneven 6 (some .int) (xrm 6 138) FM_uneven := by
  refine XS.of (own := RX9) (by decide) rfl (rk := 1) rfl (tM_uneven) (fun vs h r hr => ?_)
  unfold FM_uneven at hr
  split at hr
  · exact ⟨rfl, Nat.le_of_ble_eq_true rfl, hr⟩
  · cases hr
-- LineDiagram.crookedest()I
def rD_crookedest : List (Nat × XRow) := [(0, (.bipush (-2), 2, 0, .int (-2 : Int32), [])),
  (2, (.istore_n 1, 3, 1, .null, [])),
  (3, (.iconst (-1), 4, 0, .int (-1 : Int32), [])),
  (4, (.istore_n 2, 5, 2, .null, [])),
  (5, (.iconst 0, 6, 0, .int (0 : Int32), [])),
  (6, (.istore_n 3, 7, 3, .null, [])),
  (7, (.iload_n 3, 8, 3, .null, [])),
  (8, (.aload_n 0, 9, 0, .null, [])),
  (9, (.getfield 29, 12, 29, .null, [])),
  (12, (.getfield 104, 15, 104, .null, [])),
  (15, (.if_icmp .ge 34, 18, 49, .null, [])),
  (18, (.aload_n 0, 19, 0, .null, [])),
  (19, (.getfield 29, 22, 29, .null, [])),
  (22, (.getfield 123, 25, 123, .null, [])),
  (25, (.iload_n 3, 26, 3, .null, [])),
  (26, (.aaload, 27, 0, .null, [])),
  (27, (.invokevirtual 248, 30, 248, .null, [])),
  (30, (.istore 4, 32, 4, .null, [])),
  (32, (.iload 4, 34, 4, .null, [])),
  (34, (.iload_n 2, 35, 2, .null, [])),
  (35, (.if_icmp .le 8, 38, 43, .null, [])),
  (38, (.iload 4, 40, 4, .null, [])),
  (40, (.istore_n 2, 41, 2, .null, [])),
  (41, (.iload_n 3, 42, 3, .null, [])),
  (42, (.istore_n 1, 43, 1, .null, [])),
  (43, (.iinc 3 1, 46, 3, .int (1 : Int32), [])),
  (46, (.goto (-39), 49, 7, .null, [])),
  (49, (.iload_n 1, 50, 1, .null, [])),
  (50, (.ireturn, 51, 0, .null, []))]
def mD_crookedest : List (Nat × XM) := [(248, (1, 1, some 3, FLn_sumOfTurns))]
abbrev BD_crookedest : XB := (rD_crookedest, XFT_D, mD_crookedest, 1, XST_D)
set_option maxRecDepth 100000 in
theorem kD_crookedest : XOK BD_crookedest cX8_crookedest 5 RX8 4 88 := xok_of (cps := []) (K := XKT_D) (by decide +kernel) XKT_D_ok (fun _ h => absurd h List.not_mem_nil) XFT_D_ok (List.forall_mem_cons.mpr ⟨⟨_, _, _, _, _, _, _, SLn_sumOfTurns, rfl, rfl, Nat.le_of_ble_eq_true rfl, Nat.le_of_ble_eq_true rfl, cdLn_sumOfTurns, lkD_248, imLn_sumOfTurns, slLn_sumOfTurns, inLn_sumOfTurns, pmLn_sumOfTurns⟩, fun _ h => absurd h List.not_mem_nil⟩) XST_D_ok
def wD_crookedest_7 (f : Nat → Int32 → Int32 → Int32 → XH → XR) : List Value → List Value → XH → XR := fun vs st h => match vs, st with
  | [.ref a0, .int x1, .int x2, .int x3], [] => f a0 x1 x2 x3 h
  | _, _ => none
def wD_crookedest (f : Nat → XH → XR) : List Value → List Value → XH → XR := fun vs st h => match vs, st with
  | [.ref a0], [] => f a0 h
  | _, _ => none
set_option maxRecDepth 100000 in
theorem eD_crookedest_7_b (k7 : Nat → Int32 → Int32 → Int32 → XH → XR) (a0 : Nat) (x1 : Int32) (x2 : Int32) (x3 : Int32) (h : XH) : qD_crookedest_7_b k7 a0 x1 x2 x3 h = xrun BD_crookedest (xfind [(7, ([0, 1, 2, 3], wD_crookedest_7 (k7)))]) 32 7 (List.zip [0, 1, 2, 3] [.ref a0, .int x1, .int x2, .int x3]) [] h := rfl
theorem tD_crookedest_7_b {k7 : Nat → Int32 → Int32 → Int32 → XH → XR} (hk7 : XTo cX8_crookedest 5 RX8 1 4 88 7 [0, 1, 2, 3] (wD_crookedest_7 k7)) : XTo cX8_crookedest 5 RX8 1 4 88 7 [0, 1, 2, 3] (wD_crookedest_7 (qD_crookedest_7_b k7)) := by
  refine XTo.run (B := BD_crookedest) (cut := xfind [(7, ([0, 1, 2, 3], wD_crookedest_7 (k7)))]) kD_crookedest (xcuts_ok (List.forall_mem_cons.mpr ⟨hk7, fun _ h => absurd h List.not_mem_nil⟩)) 32 (fun vs st h r hr => ?_)
  unfold wD_crookedest_7 at hr
  split at hr
  · exact (eD_crookedest_7_b k7 _ _ _ _ _).symm.trans hr
  · cases hr
theorem tD_crookedest_7 : ∀ n : Nat, XTo cX8_crookedest 5 RX8 1 4 88 7 [0, 1, 2, 3] (wD_crookedest_7 (qD_crookedest_7 n)) := by
  intro n
  induction n with
  | zero =>
    refine XTo.none fun vs st h => ?_
    unfold wD_crookedest_7
    split <;> rfl
  | succ n ih => exact tD_crookedest_7_b  ih
set_option maxRecDepth 100000 in
theorem eD_crookedest (a0 : Nat) (h : XH) : qD_crookedest a0 h = xrun BD_crookedest (xfind [(7, ([0, 1, 2, 3], wD_crookedest_7 (qD_crookedest_7 LF)))]) 32 0 (List.zip [0] [.ref a0]) [] h := rfl
theorem tD_crookedest : XTo cX8_crookedest 5 RX8 1 4 88 0 [0] (wD_crookedest (qD_crookedest)) := by
  refine XTo.run (B := BD_crookedest) (cut := xfind [(7, ([0, 1, 2, 3], wD_crookedest_7 (qD_crookedest_7 LF)))]) kD_crookedest (xcuts_ok (List.forall_mem_cons.mpr ⟨tD_crookedest_7 LF, fun _ h => absurd h List.not_mem_nil⟩)) 32 (fun vs st h r hr => ?_)
  unfold wD_crookedest at hr
  split at hr
  · exact (eD_crookedest _ _).symm.trans hr
  · cases hr
def FD_crookedest : List Value → XH → XR := fun vs h => match vs with
  | [.ref a0] => qD_crookedest a0 h
  | _ => none
theorem SD_crookedest : XS yX8_crookedest cX8_crookedest 5 (some .int) (xrm 4 88) FD_crookedest := by
  refine XS.of (own := RX8) (by decide) rfl (rk := 1) rfl (tD_crookedest) (fun vs h r hr => ?_)
  unfold FD_crookedest at hr
  split at hr
  · exact ⟨rfl, Nat.le_of_ble_eq_true rfl, hr⟩
  · cases hr
-- LineDiagramModel.crookedest()I
def rM_crookedest : List (Nat × XRow) := [(0, (.bipush (-2), 2, 0, .int (-2 : Int32), [])),
  (2, (.istore_n 1, 3, 1, .null, [])),
  (3, (.iconst 0, 4, 0, .int (0 : Int32), [])),
  (4, (.istore_n 2, 5, 2, .null, [])),
  (5, (.iload_n 2, 6, 2, .null, [])),
  (6, (.aload_n 0, 7, 0, .null, [])),
  (7, (.getfield 100, 10, 100, .null, [])),
  (10, (.if_icmp .ge 36, 13, 46, .null, [])),
  (13, (.iload_n 1, 14, 1, .null, [])),
  (14, (.ifCond .lt 20, 17, 34, .null, [])),
  (17, (.aload_n 0, 18, 0, .null, [])),
  (18, (.iload_n 2, 19, 2, .null, [])),
  (19, (.bipush 6, 21, 0, .int (6 : Int32), [])),
  (21, (.invokevirtual 430, 24, 430, .null, [])),
  (24, (.aload_n 0, 25, 0, .null, [])),
  (25, (.iload_n 1, 26, 1, .null, [])),
  (26, (.bipush 6, 28, 0, .int (6 : Int32), [])),
  (28, (.invokevirtual 430, 31, 430, .null, [])),
  (31, (.if_icmp .le 7, 34, 38, .null, [])),
  (34, (.iload_n 2, 35, 2, .null, [])),
  (35, (.goto 4, 38, 39, .null, [])),
  (38, (.iload_n 1, 39, 1, .null, [])),
  (39, (.istore_n 1, 40, 1, .null, [])),
  (40, (.iinc 2 1, 43, 2, .int (1 : Int32), [])),
  (43, (.goto (-38), 46, 5, .null, [])),
  (46, (.iload_n 1, 47, 1, .null, [])),
  (47, (.ireturn, 48, 0, .null, []))]
def mM_crookedest : List (Nat × XM) := [(430, (3, 1, some 9, FM_turns))]
abbrev BM_crookedest : XB := (rM_crookedest, XFT_M, mM_crookedest, 1, XST_M)
set_option maxRecDepth 100000 in
theorem kM_crookedest : XOK BM_crookedest cX9_crookedest 3 RX9 5 115 := xok_of (cps := []) (K := XKT_M) (by decide +kernel) XKT_M_ok (fun _ h => absurd h List.not_mem_nil) XFT_M_ok (List.forall_mem_cons.mpr ⟨⟨_, _, _, _, _, _, _, SM_turns, rfl, rfl, Nat.le_of_ble_eq_true rfl, Nat.le_of_ble_eq_true rfl, cdM_turns, lkM_430, imM_turns, slM_turns, inM_turns, pmM_turns⟩, fun _ h => absurd h List.not_mem_nil⟩) XST_M_ok
def wM_crookedest_34 (f : Nat → Int32 → XH → XR) : List Value → List Value → XH → XR := fun vs st h => match vs, st with
  | [.ref a0, .int x2], [] => f a0 x2 h
  | _, _ => none
def wM_crookedest_5 (f : Nat → Int32 → Int32 → XH → XR) : List Value → List Value → XH → XR := fun vs st h => match vs, st with
  | [.ref a0, .int x1, .int x2], [] => f a0 x1 x2 h
  | _, _ => none
def wM_crookedest (f : Nat → XH → XR) : List Value → List Value → XH → XR := fun vs st h => match vs, st with
  | [.ref a0], [] => f a0 h
  | _, _ => none
set_option maxRecDepth 100000 in
theorem eM_crookedest_34 (k5 : Nat → Int32 → Int32 → XH → XR) (a0 : Nat) (x2 : Int32) (h : XH) : qM_crookedest_34 k5 a0 x2 h = xrun BM_crookedest (xfind [(5, ([0, 1, 2], wM_crookedest_5 (k5)))]) 30 34 (List.zip [0, 2] [.ref a0, .int x2]) [] h := rfl
theorem tM_crookedest_34 {k5 : Nat → Int32 → Int32 → XH → XR} (hk5 : XTo cX9_crookedest 3 RX9 1 5 115 5 [0, 1, 2] (wM_crookedest_5 k5)) : XTo cX9_crookedest 3 RX9 1 5 115 34 [0, 2] (wM_crookedest_34 (qM_crookedest_34 k5)) := by
  refine XTo.run (B := BM_crookedest) (cut := xfind [(5, ([0, 1, 2], wM_crookedest_5 (k5)))]) kM_crookedest (xcuts_ok (List.forall_mem_cons.mpr ⟨hk5, fun _ h => absurd h List.not_mem_nil⟩)) 30 (fun vs st h r hr => ?_)
  unfold wM_crookedest_34 at hr
  split at hr
  · exact (eM_crookedest_34 k5 _ _ _).symm.trans hr
  · cases hr
set_option maxRecDepth 100000 in
theorem eM_crookedest_5_b (k5 : Nat → Int32 → Int32 → XH → XR) (a0 : Nat) (x1 : Int32) (x2 : Int32) (h : XH) : qM_crookedest_5_b k5 a0 x1 x2 h = xrun BM_crookedest (xfind [(5, ([0, 1, 2], wM_crookedest_5 (k5))), (34, ([0, 2], wM_crookedest_34 (qM_crookedest_34 k5)))]) 30 5 (List.zip [0, 1, 2] [.ref a0, .int x1, .int x2]) [] h := rfl
theorem tM_crookedest_5_b {k5 : Nat → Int32 → Int32 → XH → XR} (hk5 : XTo cX9_crookedest 3 RX9 1 5 115 5 [0, 1, 2] (wM_crookedest_5 k5)) : XTo cX9_crookedest 3 RX9 1 5 115 5 [0, 1, 2] (wM_crookedest_5 (qM_crookedest_5_b k5)) := by
  refine XTo.run (B := BM_crookedest) (cut := xfind [(5, ([0, 1, 2], wM_crookedest_5 (k5))), (34, ([0, 2], wM_crookedest_34 (qM_crookedest_34 k5)))]) kM_crookedest (xcuts_ok (List.forall_mem_cons.mpr ⟨hk5, List.forall_mem_cons.mpr ⟨tM_crookedest_34 hk5, fun _ h => absurd h List.not_mem_nil⟩⟩)) 30 (fun vs st h r hr => ?_)
  unfold wM_crookedest_5 at hr
  split at hr
  · exact (eM_crookedest_5_b k5 _ _ _ _).symm.trans hr
  · cases hr
theorem tM_crookedest_5 : ∀ n : Nat, XTo cX9_crookedest 3 RX9 1 5 115 5 [0, 1, 2] (wM_crookedest_5 (qM_crookedest_5 n)) := by
  intro n
  induction n with
  | zero =>
    refine XTo.none fun vs st h => ?_
    unfold wM_crookedest_5
    split <;> rfl
  | succ n ih => exact tM_crookedest_5_b  ih
set_option maxRecDepth 100000 in
theorem eM_crookedest (a0 : Nat) (h : XH) : qM_crookedest a0 h = xrun BM_crookedest (xfind [(5, ([0, 1, 2], wM_crookedest_5 (qM_crookedest_5 LF)))]) 30 0 (List.zip [0] [.ref a0]) [] h := rfl
theorem tM_crookedest : XTo cX9_crookedest 3 RX9 1 5 115 0 [0] (wM_crookedest (qM_crookedest)) := by
  refine XTo.run (B := BM_crookedest) (cut := xfind [(5, ([0, 1, 2], wM_crookedest_5 (qM_crookedest_5 LF)))]) kM_crookedest (xcuts_ok (List.forall_mem_cons.mpr ⟨tM_crookedest_5 LF, fun _ h => absurd h List.not_mem_nil⟩)) 30 (fun vs st h r hr => ?_)
  unfold wM_crookedest at hr
  split at hr
  · exact (eM_crookedest _ _).symm.trans hr
  · cases hr
def FM_crookedest : List Value → XH → XR := fun vs h => match vs with
  | [.ref a0] => qM_crookedest a0 h
  | _ => none
theorem SM_crookedest : XS yX9_crookedest cX9_crookedest 3 (some .int) (xrm 5 115) FM_crookedest := by
  refine XS.of (own := RX9) (by decide) rfl (rk := 1) rfl (tM_crookedest) (fun vs h r hr => ?_)
  unfold FM_crookedest at hr
  split at hr
  · exact ⟨rfl, Nat.le_of_ble_eq_true rfl, hr⟩
  · cases hr
-- LineDiagram.codeOf(I)I
def rD_codeOf : List (Nat × XRow) := [(0, (.bipush 64, 2, 0, .int (64 : Int32), [])),
  (2, (.iload_n 0, 3, 0, .null, [])),
  (3, (.invokestatic 269, 6, 269, .null, [])),
  (6, (.imul, 7, 0, .null, [])),
  (7, (.iload_n 0, 8, 0, .null, [])),
  (8, (.invokestatic 266, 11, 266, .null, [])),
  (11, (.iadd, 12, 0, .null, [])),
  (12, (.ireturn, 13, 0, .null, []))]
def mD_codeOf : List (Nat × XM) := [(266, (1, 1, none, FD_columnOf)), (269, (1, 1, none, FD_rowOf))]
abbrev BD_codeOf : XB := (rD_codeOf, XFT_D, mD_codeOf, 1, XST_D)
set_option maxRecDepth 100000 in
theorem kD_codeOf : XOK BD_codeOf cX8_codeOf 1 RX8 1 20 := xok_of (cps := []) (K := XKT_D) (by decide +kernel) XKT_D_ok (fun _ h => absurd h List.not_mem_nil) XFT_D_ok (List.forall_mem_cons.mpr ⟨⟨_, _, _, _, _, _, SD_columnOf, Nat.le_of_ble_eq_true rfl, Nat.le_of_ble_eq_true rfl, cdD_columnOf, lkD_266, imD_columnOf, inD_columnOf, pmD_columnOf⟩, List.forall_mem_cons.mpr ⟨⟨_, _, _, _, _, _, SD_rowOf, Nat.le_of_ble_eq_true rfl, Nat.le_of_ble_eq_true rfl, cdD_rowOf, lkD_269, imD_rowOf, inD_rowOf, pmD_rowOf⟩, fun _ h => absurd h List.not_mem_nil⟩⟩) XST_D_ok
def wD_codeOf (f : Int32 → XH → XR) : List Value → List Value → XH → XR := fun vs st h => match vs, st with
  | [.int x0], [] => f x0 h
  | _, _ => none
set_option maxRecDepth 100000 in
theorem eD_codeOf (x0 : Int32) (h : XH) : qD_codeOf x0 h = xrun BD_codeOf (xfind []) 11 0 (List.zip [0] [.int x0]) [] h := rfl
theorem tD_codeOf : XTo cX8_codeOf 1 RX8 1 1 20 0 [0] (wD_codeOf (qD_codeOf)) := by
  refine XTo.run (B := BD_codeOf) (cut := xfind []) kD_codeOf (xcuts_ok (fun _ h => absurd h List.not_mem_nil)) 11 (fun vs st h r hr => ?_)
  unfold wD_codeOf at hr
  split at hr
  · exact (eD_codeOf _ _).symm.trans hr
  · cases hr
def FD_codeOf : List Value → XH → XR := fun vs h => match vs with
  | [.int x0] => qD_codeOf x0 h
  | _ => none
theorem SD_codeOf : XS yX8_codeOf cX8_codeOf 1 (some .int) (xrm 1 20) FD_codeOf := by
  refine XS.of (own := RX8) (by decide) rfl (rk := 1) rfl (tD_codeOf) (fun vs h r hr => ?_)
  unfold FD_codeOf at hr
  split at hr
  · exact ⟨rfl, Nat.le_of_ble_eq_true rfl, hr⟩
  · cases hr
