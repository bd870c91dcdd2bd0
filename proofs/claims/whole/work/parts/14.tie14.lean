-- LineDiagramModel.loses(I)V
def rM_loses : List (Nat × XRow) := [(0, (.aload_n 0, 1, 0, .null, [])),
  (1, (.iload_n 1, 2, 1, .null, [])),
  (2, (.aload_n 0, 3, 0, .null, [])),
  (3, (.iload_n 1, 4, 1, .null, [])),
  (4, (.invokevirtual 187, 7, 187, .null, [])),
  (7, (.bipush (-2), 9, 0, .int (-2 : Int32), [])),
  (9, (.invokevirtual 184, 12, 184, .null, [])),
  (12, (.aload_n 0, 13, 0, .null, [])),
  (13, (.getfield 21, 16, 21, .null, [])),
  (16, (.sipush 184, 19, 0, .int (184 : Int32), [])),
  (19, (.iload_n 1, 20, 1, .null, [])),
  (20, (.iadd, 21, 0, .null, [])),
  (21, (.bipush (-2), 23, 0, .int (-2 : Int32), [])),
  (23, (.iastore, 24, 0, .null, [])),
  (24, (.return_, 25, 0, .null, []))]
def mM_loses : List (Nat × XM) := [(184, (4, 0, some 9, FM_laysLabel)), (187, (2, 1, some 9, FM_labelOf))]
abbrev BM_loses : XB := (rM_loses, XFT_M, mM_loses, 0, XST_M)
set_option maxRecDepth 100000 in
theorem kM_loses : XOK BM_loses cX9_loses 2 RX9 2 48 := xok_of (cps := []) (K := XKT_M) (by decide +kernel) XKT_M_ok (fun _ h => absurd h List.not_mem_nil) XFT_M_ok (List.forall_mem_cons.mpr ⟨⟨_, _, _, _, _, _, _, SM_laysLabel, rfl, rfl, Nat.le_of_ble_eq_true rfl, Nat.le_of_ble_eq_true rfl, cdM_laysLabel, lkM_184, imM_laysLabel, slM_laysLabel, inM_laysLabel, pmM_laysLabel⟩, List.forall_mem_cons.mpr ⟨⟨_, _, _, _, _, _, _, SM_labelOf, rfl, rfl, Nat.le_of_ble_eq_true rfl, Nat.le_of_ble_eq_true rfl, cdM_labelOf, lkM_187, imM_labelOf, slM_labelOf, inM_labelOf, pmM_labelOf⟩, fun _ h => absurd h List.not_mem_nil⟩⟩) XST_M_ok
def wM_loses (f : Nat → Int32 → XH → XR) : List Value → List Value → XH → XR := fun vs st h => match vs, st with
  | [.ref a0, .int x1], [] => f a0 x1 h
  | _, _ => none
set_option maxRecDepth 100000 in
theorem eM_loses (a0 : Nat) (x1 : Int32) (h : XH) : qM_loses a0 x1 h = xrun BM_loses (xfind []) 18 0 (List.zip [0, 1] [.ref a0, .int x1]) [] h := rfl
theorem tM_loses : XTo cX9_loses 2 RX9 0 2 48 0 [0, 1] (wM_loses (qM_loses)) := by
  refine XTo.run (B := BM_loses) (cut := xfind []) kM_loses (xcuts_ok (fun _ h => absurd h List.not_mem_nil)) 18 (fun vs st h r hr => ?_)
  unfold wM_loses at hr
  split at hr
  · exact (eM_loses _ _ _).symm.trans hr
  · cases hr
def FM_loses : List Value → XH → XR := fun vs h => match vs with
  | [.ref a0, .int x1] => qM_loses a0 x1 h
  | _ => none
theorem SM_loses : XS yX9_loses cX9_loses 2 none (xrm 2 48) FM_loses := by
  refine XS.of (own := RX9) (by decide) rfl (rk := 0) rfl (tM_loses) (fun vs h r hr => ?_)
  unfold FM_loses at hr
  split at hr
  · exact ⟨rfl, Nat.le_of_ble_eq_true rfl, hr⟩
  · cases hr
-- LineDiagramModel.makesWay(II)I
def rM_makesWay : List (Nat × XRow) := [(0, (.aload_n 0, 1, 0, .null, [])),
  (1, (.iload_n 1, 2, 1, .null, [])),
  (2, (.iload_n 2, 3, 2, .null, [])),
  (3, (.invokevirtual 174, 6, 174, .null, [])),
  (6, (.ifCond .ne 22, 9, 28, .null, [])),
  (9, (.aload_n 0, 10, 0, .null, [])),
  (10, (.iload_n 1, 11, 1, .null, [])),
  (11, (.iload_n 2, 12, 2, .null, [])),
  (12, (.invokevirtual 178, 15, 178, .null, [])),
  (15, (.ifCond .ne 13, 18, 28, .null, [])),
  (18, (.aload_n 0, 19, 0, .null, [])),
  (19, (.iload_n 1, 20, 1, .null, [])),
  (20, (.iload_n 2, 21, 2, .null, [])),
  (21, (.invokevirtual 181, 24, 181, .null, [])),
  (24, (.iconst 1, 25, 0, .int (1 : Int32), [])),
  (25, (.if_icmp .eq 6, 28, 31, .null, [])),
  (28, (.bipush (-2), 30, 0, .int (-2 : Int32), [])),
  (30, (.ireturn, 31, 0, .null, [])),
  (31, (.aload_n 0, 32, 0, .null, [])),
  (32, (.getfield 171, 35, 171, .null, [])),
  (35, (.istore_n 3, 36, 3, .null, [])),
  (36, (.aload_n 0, 37, 0, .null, [])),
  (37, (.iload_n 3, 38, 3, .null, [])),
  (38, (.invokevirtual 187, 41, 187, .null, [])),
  (41, (.istore 4, 43, 4, .null, [])),
  (43, (.aload_n 0, 44, 0, .null, [])),
  (44, (.iload_n 3, 45, 3, .null, [])),
  (45, (.invokevirtual 383, 48, 383, .null, [])),
  (48, (.aload_n 0, 49, 0, .null, [])),
  (49, (.iload_n 1, 50, 1, .null, [])),
  (50, (.iload_n 2, 51, 2, .null, [])),
  (51, (.invokevirtual 205, 54, 205, .null, [])),
  (54, (.aload_n 0, 55, 0, .null, [])),
  (55, (.iload_n 3, 56, 3, .null, [])),
  (56, (.invokevirtual 202, 59, 202, .null, [])),
  (59, (.istore 5, 61, 5, .null, [])),
  (61, (.iload 5, 63, 5, .null, [])),
  (63, (.ifCond .lt 13, 66, 76, .null, [])),
  (66, (.aload_n 0, 67, 0, .null, [])),
  (67, (.iload_n 3, 68, 3, .null, [])),
  (68, (.iload 5, 70, 5, .null, [])),
  (70, (.invokevirtual 205, 73, 205, .null, [])),
  (73, (.goto 15, 76, 88, .null, [])),
  (76, (.aload_n 0, 77, 0, .null, [])),
  (77, (.iload_n 1, 78, 1, .null, [])),
  (78, (.invokevirtual 383, 81, 383, .null, [])),
  (81, (.aload_n 0, 82, 0, .null, [])),
  (82, (.iload_n 3, 83, 3, .null, [])),
  (83, (.iload 4, 85, 4, .null, [])),
  (85, (.invokevirtual 205, 88, 205, .null, [])),
  (88, (.iload 5, 90, 5, .null, [])),
  (90, (.ireturn, 91, 0, .null, []))]
def mM_makesWay : List (Nat × XM) := [(174, (3, 1, some 9, FM_isOff)), (178, (3, 1, some 9, FM_isOnLine)), (181, (3, 1, some 9, FM_others)), (187, (2, 1, some 9, FM_labelOf)), (202, (2, 1, some 9, FM_firstFree)), (205, (3, 0, some 9, FM_gets)), (383, (2, 0, some 9, FM_loses))]
abbrev BM_makesWay : XB := (rM_makesWay, XFT_M, mM_makesWay, 1, XST_M)
set_option maxRecDepth 100000 in
theorem kM_makesWay : XOK BM_makesWay cX9_makesWay 6 RX9 4 93 := xok_of (cps := []) (K := XKT_M) (by decide +kernel) XKT_M_ok (fun _ h => absurd h List.not_mem_nil) XFT_M_ok (List.forall_mem_cons.mpr ⟨⟨_, _, _, _, _, _, _, SM_isOff, rfl, rfl, Nat.le_of_ble_eq_true rfl, Nat.le_of_ble_eq_true rfl, cdM_isOff, lkM_174, imM_isOff, slM_isOff, inM_isOff, pmM_isOff⟩, List.forall_mem_cons.mpr ⟨⟨_, _, _, _, _, _, _, SM_isOnLine, rfl, rfl, Nat.le_of_ble_eq_true rfl, Nat.le_of_ble_eq_true rfl, cdM_isOnLine, lkM_178, imM_isOnLine, slM_isOnLine, inM_isOnLine, pmM_isOnLine⟩, List.forall_mem_cons.mpr ⟨⟨_, _, _, _, _, _, _, SM_others, rfl, rfl, Nat.le_of_ble_eq_true rfl, Nat.le_of_ble_eq_true rfl, cdM_others, lkM_181, imM_others, slM_others, inM_others, pmM_others⟩, List.forall_mem_cons.mpr ⟨⟨_, _, _, _, _, _, _, SM_labelOf, rfl, rfl, Nat.le_of_ble_eq_true rfl, Nat.le_of_ble_eq_true rfl, cdM_labelOf, lkM_187, imM_labelOf, slM_labelOf, inM_labelOf, pmM_labelOf⟩, List.forall_mem_cons.mpr ⟨⟨_, _, _, _, _, _, _, SM_firstFree, rfl, rfl, Nat.le_of_ble_eq_true rfl, Nat.le_of_ble_eq_true rfl, cdM_firstFree, lkM_202, imM_firstFree, slM_firstFree, inM_firstFree, pmM_firstFree⟩, List.forall_mem_cons.mpr ⟨⟨_, _, _, _, _, _, _, SM_gets, rfl, rfl, Nat.le_of_ble_eq_true rfl, Nat.le_of_ble_eq_true rfl, cdM_gets, lkM_205, imM_gets, slM_gets, inM_gets, pmM_gets⟩, List.forall_mem_cons.mpr ⟨⟨_, _, _, _, _, _, _, SM_loses, rfl, rfl, Nat.le_of_ble_eq_true rfl, Nat.le_of_ble_eq_true rfl, cdM_loses, lkM_383, imM_loses, slM_loses, inM_loses, pmM_loses⟩, fun _ h => absurd h List.not_mem_nil⟩⟩⟩⟩⟩⟩⟩) XST_M_ok
def wM_makesWay (f : Nat → Int32 → Int32 → XH → XR) : List Value → List Value → XH → XR := fun vs st h => match vs, st with
  | [.ref a0, .int x1, .int x2], [] => f a0 x1 x2 h
  | _, _ => none
set_option maxRecDepth 100000 in
theorem eM_makesWay (a0 : Nat) (x1 : Int32) (x2 : Int32) (h : XH) : qM_makesWay a0 x1 x2 h = xrun BM_makesWay (xfind []) 55 0 (List.zip [0, 1, 2] [.ref a0, .int x1, .int x2]) [] h := rfl
theorem tM_makesWay : XTo cX9_makesWay 6 RX9 1 4 93 0 [0, 1, 2] (wM_makesWay (qM_makesWay)) := by
  refine XTo.run (B := BM_makesWay) (cut := xfind []) kM_makesWay (xcuts_ok (fun _ h => absurd h List.not_mem_nil)) 55 (fun vs st h r hr => ?_)
  unfold wM_makesWay at hr
  split at hr
  · exact (eM_makesWay _ _ _ _).symm.trans hr
  · cases hr
def FM_makesWay : List Value → XH → XR := fun vs h => match vs with
  | [.ref a0, .int x1, .int x2] => qM_makesWay a0 x1 x2 h
  | _ => none
theorem SM_makesWay : XS yX9_makesWay cX9_makesWay 6 (some .int) (xrm 4 93) FM_makesWay := by
  refine XS.of (own := RX9) (by decide) rfl (rk := 1) rfl (tM_makesWay) (fun vs h r hr => ?_)
  unfold FM_makesWay at hr
  split at hr
  · exact ⟨rfl, Nat.le_of_ble_eq_true rfl, hr⟩
  · cases hr
-- LineDiagramModel.dodge(II)I
def rM_dodge : List (Nat × XRow) := [(0, (.aload_n 0, 1, 0, .null, [])),
  (1, (.iload_n 1, 2, 1, .null, [])),
  (2, (.iload_n 2, 3, 2, .null, [])),
  (3, (.invokevirtual 374, 6, 374, .null, [])),
  (6, (.ifCond .ne 5, 9, 11, .null, [])),
  (9, (.iconst (-1), 10, 0, .int (-1 : Int32), [])),
  (10, (.ireturn, 11, 0, .null, [])),
  (11, (.aload_n 0, 12, 0, .null, [])),
  (12, (.invokevirtual 380, 15, 380, .null, [])),
  (15, (.aload_n 0, 16, 0, .null, [])),
  (16, (.iload_n 1, 17, 1, .null, [])),
  (17, (.iload_n 2, 18, 2, .null, [])),
  (18, (.invokevirtual 151, 21, 151, .null, [])),
  (21, (.istore_n 3, 22, 3, .null, [])),
  (22, (.aload_n 0, 23, 0, .null, [])),
  (23, (.iload_n 3, 24, 3, .null, [])),
  (24, (.invokevirtual 187, 27, 187, .null, [])),
  (27, (.ifCond .lt 6, 30, 33, .null, [])),
  (30, (.bipush (-2), 32, 0, .int (-2 : Int32), [])),
  (32, (.ireturn, 33, 0, .null, [])),
  (33, (.aload_n 0, 34, 0, .null, [])),
  (34, (.invokevirtual 352, 37, 352, .null, [])),
  (37, (.aload_n 0, 38, 0, .null, [])),
  (38, (.iload_n 3, 39, 3, .null, [])),
  (39, (.invokevirtual 202, 42, 202, .null, [])),
  (42, (.istore 4, 44, 4, .null, [])),
  (44, (.iload 4, 46, 4, .null, [])),
  (46, (.ifCond .lt 10, 49, 56, .null, [])),
  (49, (.aload_n 0, 50, 0, .null, [])),
  (50, (.iload_n 3, 51, 3, .null, [])),
  (51, (.iload 4, 53, 4, .null, [])),
  (53, (.invokevirtual 205, 56, 205, .null, [])),
  (56, (.iconst 0, 57, 0, .int (0 : Int32), [])),
  (57, (.istore 5, 59, 5, .null, [])),
  (59, (.iload 5, 61, 5, .null, [])),
  (61, (.bipush 8, 63, 0, .int (8 : Int32), [])),
  (63, (.if_icmp .ge 33, 66, 96, .null, [])),
  (66, (.iload 4, 68, 4, .null, [])),
  (68, (.ifCond .ge 28, 71, 96, .null, [])),
  (71, (.aload_n 0, 72, 0, .null, [])),
  (72, (.iload_n 3, 73, 3, .null, [])),
  (73, (.iload 5, 75, 5, .null, [])),
  (75, (.invokevirtual 386, 78, 386, .null, [])),
  (78, (.ifCond .lt 8, 81, 86, .null, [])),
  (81, (.iload 5, 83, 5, .null, [])),
  (83, (.goto 5, 86, 88, .null, [])),
  (86, (.iload 4, 88, 4, .null, [])),
  (88, (.istore 4, 90, 4, .null, [])),
  (90, (.iinc 5 1, 93, 5, .int (1 : Int32), [])),
  (93, (.goto (-34), 96, 59, .null, [])),
  (96, (.iload 4, 98, 4, .null, [])),
  (98, (.ifCond .lt 15, 101, 113, .null, [])),
  (101, (.aload_n 0, 102, 0, .null, [])),
  (102, (.invokevirtual 337, 105, 337, .null, [])),
  (105, (.aload_n 0, 106, 0, .null, [])),
  (106, (.invokevirtual 340, 109, 340, .null, [])),
  (109, (.aload_n 0, 110, 0, .null, [])),
  (110, (.invokevirtual 337, 113, 337, .null, [])),
  (113, (.iload 4, 115, 4, .null, [])),
  (115, (.ireturn, 116, 0, .null, []))]
def mM_dodge : List (Nat × XM) := [(151, (3, 1, some 9, FM_cellOf)), (187, (2, 1, some 9, FM_labelOf)), (202, (2, 1, some 9, FM_firstFree)), (205, (3, 0, some 9, FM_gets)), (337, (1, 0, some 9, FM_swaps)), (340, (1, 0, some 9, FM_remembers)), (352, (1, 0, some 9, FM_thinks)), (374, (3, 1, some 9, FM_isStation)), (380, (1, 0, some 9, FM_lays)), (386, (3, 1, some 9, FM_makesWay))]
abbrev BM_dodge : XB := (rM_dodge, XFT_M, mM_dodge, 1, XST_M)
set_option maxRecDepth 100000 in
theorem kM_dodge : XOK BM_dodge cX9_dodge 6 RX9 6 138 := xok_of (cps := []) (K := XKT_M) (by decide +kernel) XKT_M_ok (fun _ h => absurd h List.not_mem_nil) XFT_M_ok (List.forall_mem_cons.mpr ⟨⟨_, _, _, _, _, _, _, SM_cellOf, rfl, rfl, Nat.le_of_ble_eq_true rfl, Nat.le_of_ble_eq_true rfl, cdM_cellOf, lkM_151, imM_cellOf, slM_cellOf, inM_cellOf, pmM_cellOf⟩, List.forall_mem_cons.mpr ⟨⟨_, _, _, _, _, _, _, SM_labelOf, rfl, rfl, Nat.le_of_ble_eq_true rfl, Nat.le_of_ble_eq_true rfl, cdM_labelOf, lkM_187, imM_labelOf, slM_labelOf, inM_labelOf, pmM_labelOf⟩, List.forall_mem_cons.mpr ⟨⟨_, _, _, _, _, _, _, SM_firstFree, rfl, rfl, Nat.le_of_ble_eq_true rfl, Nat.le_of_ble_eq_true rfl, cdM_firstFree, lkM_202, imM_firstFree, slM_firstFree, inM_firstFree, pmM_firstFree⟩, List.forall_mem_cons.mpr ⟨⟨_, _, _, _, _, _, _, SM_gets, rfl, rfl, Nat.le_of_ble_eq_true rfl, Nat.le_of_ble_eq_true rfl, cdM_gets, lkM_205, imM_gets, slM_gets, inM_gets, pmM_gets⟩, List.forall_mem_cons.mpr ⟨⟨_, _, _, _, _, _, _, SM_swaps, rfl, rfl, Nat.le_of_ble_eq_true rfl, Nat.le_of_ble_eq_true rfl, cdM_swaps, lkM_337, imM_swaps, slM_swaps, inM_swaps, pmM_swaps⟩, List.forall_mem_cons.mpr ⟨⟨_, _, _, _, _, _, _, SM_remembers, rfl, rfl, Nat.le_of_ble_eq_true rfl, Nat.le_of_ble_eq_true rfl, cdM_remembers, lkM_340, imM_remembers, slM_remembers, inM_remembers, pmM_remembers⟩, List.forall_mem_cons.mpr ⟨⟨_, _, _, _, _, _, _, SM_thinks, rfl, rfl, Nat.le_of_ble_eq_true rfl, Nat.le_of_ble_eq_true rfl, cdM_thinks, lkM_352, imM_thinks, slM_thinks, inM_thinks, pmM_thinks⟩, List.forall_mem_cons.mpr ⟨⟨_, _, _, _, _, _, _, SM_isStation, rfl, rfl, Nat.le_of_ble_eq_true rfl, Nat.le_of_ble_eq_true rfl, cdM_isStation, lkM_374, imM_isStation, slM_isStation, inM_isStation, pmM_isStation⟩, List.forall_mem_cons.mpr ⟨⟨_, _, _, _, _, _, _, SM_lays, rfl, rfl, Nat.le_of_ble_eq_true rfl, Nat.le_of_ble_eq_true rfl, cdM_lays, lkM_380, imM_lays, slM_lays, inM_lays, pmM_lays⟩, List.forall_mem_cons.mpr ⟨⟨_, _, _, _, _, _, _, SM_makesWay, rfl, rfl, Nat.le_of_ble_eq_true rfl, Nat.le_of_ble_eq_true rfl, cdM_makesWay, lkM_386, imM_makesWay, slM_makesWay, inM_makesWay, pmM_makesWay⟩, fun _ h => absurd h List.not_mem_nil⟩⟩⟩⟩⟩⟩⟩⟩⟩⟩) XST_M_ok
def wM_dodge_96 (f : Nat → Int32 → XH → XR) : List Value → List Value → XH → XR := fun vs st h => match vs, st with
  | [.ref a0, .int x4], [] => f a0 x4 h
  | _, _ => none
def wM_dodge_59 (f : Nat → Int32 → Int32 → Int32 → XH → XR) : List Value → List Value → XH → XR := fun vs st h => match vs, st with
  | [.ref a0, .int x3, .int x4, .int x5], [] => f a0 x3 x4 x5 h
  | _, _ => none
def wM_dodge (f : Nat → Int32 → Int32 → XH → XR) : List Value → List Value → XH → XR := fun vs st h => match vs, st with
  | [.ref a0, .int x1, .int x2], [] => f a0 x1 x2 h
  | _, _ => none
set_option maxRecDepth 100000 in
theorem eM_dodge_96 (a0 : Nat) (x4 : Int32) (h : XH) : qM_dodge_96 a0 x4 h = xrun BM_dodge (xfind []) 63 96 (List.zip [0, 4] [.ref a0, .int x4]) [] h := rfl
theorem tM_dodge_96 : XTo cX9_dodge 6 RX9 1 6 138 96 [0, 4] (wM_dodge_96 (qM_dodge_96)) := by
  refine XTo.run (B := BM_dodge) (cut := xfind []) kM_dodge (xcuts_ok (fun _ h => absurd h List.not_mem_nil)) 63 (fun vs st h r hr => ?_)
  unfold wM_dodge_96 at hr
  split at hr
  · exact (eM_dodge_96 _ _ _).symm.trans hr
  · cases hr
set_option maxRecDepth 100000 in
theorem eM_dodge_59_b (k59 : Nat → Int32 → Int32 → Int32 → XH → XR) (a0 : Nat) (x3 : Int32) (x4 : Int32) (x5 : Int32) (h : XH) : qM_dodge_59_b k59 a0 x3 x4 x5 h = xrun BM_dodge (xfind [(59, ([0, 3, 4, 5], wM_dodge_59 (k59))), (96, ([0, 4], wM_dodge_96 (qM_dodge_96)))]) 63 59 (List.zip [0, 3, 4, 5] [.ref a0, .int x3, .int x4, .int x5]) [] h := rfl
theorem tM_dodge_59_b {k59 : Nat → Int32 → Int32 → Int32 → XH → XR} (hk59 : XTo cX9_dodge 6 RX9 1 6 138 59 [0, 3, 4, 5] (wM_dodge_59 k59)) : XTo cX9_dodge 6 RX9 1 6 138 59 [0, 3, 4, 5] (wM_dodge_59 (qM_dodge_59_b k59)) := by
  refine XTo.run (B := BM_dodge) (cut := xfind [(59, ([0, 3, 4, 5], wM_dodge_59 (k59))), (96, ([0, 4], wM_dodge_96 (qM_dodge_96)))]) kM_dodge (xcuts_ok (List.forall_mem_cons.mpr ⟨hk59, List.forall_mem_cons.mpr ⟨tM_dodge_96, fun _ h => absurd h List.not_mem_nil⟩⟩)) 63 (fun vs st h r hr => ?_)
  unfold wM_dodge_59 at hr
  split at hr
  · exact (eM_dodge_59_b k59 _ _ _ _ _).symm.trans hr
  · cases hr
theorem tM_dodge_59 : ∀ n : Nat, XTo cX9_dodge 6 RX9 1 6 138 59 [0, 3, 4, 5] (wM_dodge_59 (qM_dodge_59 n)) := by
  intro n
  induction n with
  | zero =>
    refine XTo.none fun vs st h => ?_
    unfold wM_dodge_59
    split <;> rfl
  | succ n ih => exact tM_dodge_59_b  ih
set_option maxRecDepth 100000 in
theorem eM_dodge (a0 : Nat) (x1 : Int32) (x2 : Int32) (h : XH) : qM_dodge a0 x1 x2 h = xrun BM_dodge (xfind [(59, ([0, 3, 4, 5], wM_dodge_59 (qM_dodge_59 LF)))]) 63 0 (List.zip [0, 1, 2] [.ref a0, .int x1, .int x2]) [] h := rfl
theorem tM_dodge : XTo cX9_dodge 6 RX9 1 6 138 0 [0, 1, 2] (wM_dodge (qM_dodge)) := by
  refine XTo.run (B := BM_dodge) (cut := xfind [(59, ([0, 3, 4, 5], wM_dodge_59 (qM_dodge_59 LF)))]) kM_dodge (xcuts_ok (List.forall_mem_cons.mpr ⟨tM_dodge_59 LF, fun _ h => absurd h List.not_mem_nil⟩)) 63 (fun vs st h r hr => ?_)
  unfold wM_dodge at hr
  split at hr
  · exact (eM_dodge _ _ _ _).symm.trans hr
  · cases hr
def FM_dodge : List Value → XH → XR := fun vs h => match vs with
  | [.ref a0, .int x1, .int x2] => qM_dodge a0 x1 x2 h
  | _ => none
theorem SM_dodge : XS yX9_dodge cX9_dodge 6 (some .int) (xrm 6 138) FM_dodge := by
  refine XS.of (own := RX9) (by decide) rfl (rk := 1) rfl (tM_dodge) (fun vs h r hr => ?_)
  unfold FM_dodge at hr
  split at hr
  · exact ⟨rfl, Nat.le_of_ble_eq_true rfl, hr⟩
  · cases hr
-- LineDiagram.wantsLabel(I)Z
def rD_wantsLabel : List (Nat × XRow) := [(0, (.aload_n 0, 1, 0, .null, [])),
  (1, (.getfield 54, 4, 54, .null, [])),
  (4, (.getfield 281, 7, 281, .null, [])),
  (7, (.iload_n 1, 8, 1, .null, [])),
  (8, (.iaload, 9, 0, .null, [])),
  (9, (.ifCond .le 21, 12, 30, .null, [])),
  (12, (.aload_n 0, 13, 0, .null, [])),
  (13, (.getfield 29, 16, 29, .null, [])),
  (16, (.getfield 161, 19, 161, .null, [])),
  (19, (.iload_n 1, 20, 1, .null, [])),
  (20, (.invokevirtual 165, 23, 165, .null, [])),
  (23, (.ifCond .ge 7, 26, 30, .null, [])),
  (26, (.iconst 1, 27, 0, .int (1 : Int32), [])),
  (27, (.goto 4, 30, 31, .null, [])),
  (30, (.iconst 0, 31, 0, .int (0 : Int32), [])),
  (31, (.ireturn, 32, 0, .null, []))]
def mD_wantsLabel : List (Nat × XM) := [(165, (2, 1, some 2, FLb_positionOf))]
abbrev BD_wantsLabel : XB := (rD_wantsLabel, XFT_D, mD_wantsLabel, 6, XST_D)
set_option maxRecDepth 100000 in
theorem kD_wantsLabel : XOK BD_wantsLabel cX8_wantsLabel 2 RX8 2 44 := xok_of (cps := []) (K := XKT_D) (by decide +kernel) XKT_D_ok (fun _ h => absurd h List.not_mem_nil) XFT_D_ok (List.forall_mem_cons.mpr ⟨⟨_, _, _, _, _, _, _, SLb_positionOf, rfl, rfl, Nat.le_of_ble_eq_true rfl, Nat.le_of_ble_eq_true rfl, cdLb_positionOf, lkD_165, imLb_positionOf, slLb_positionOf, inLb_positionOf, pmLb_positionOf⟩, fun _ h => absurd h List.not_mem_nil⟩) XST_D_ok
def wD_wantsLabel (f : Nat → Int32 → XH → XR) : List Value → List Value → XH → XR := fun vs st h => match vs, st with
  | [.ref a0, .int x1], [] => f a0 x1 h
  | _, _ => none
set_option maxRecDepth 100000 in
theorem eD_wantsLabel (a0 : Nat) (x1 : Int32) (h : XH) : qD_wantsLabel a0 x1 h = xrun BD_wantsLabel (xfind []) 19 0 (List.zip [0, 1] [.ref a0, .int x1]) [] h := rfl
theorem tD_wantsLabel : XTo cX8_wantsLabel 2 RX8 6 2 44 0 [0, 1] (wD_wantsLabel (qD_wantsLabel)) := by
  refine XTo.run (B := BD_wantsLabel) (cut := xfind []) kD_wantsLabel (xcuts_ok (fun _ h => absurd h List.not_mem_nil)) 19 (fun vs st h r hr => ?_)
  unfold wD_wantsLabel at hr
  split at hr
  · exact (eD_wantsLabel _ _ _).symm.trans hr
  · cases hr
def FD_wantsLabel : List Value → XH → XR := fun vs h => match vs with
  | [.ref a0, .int x1] => qD_wantsLabel a0 x1 h
  | _ => none
theorem SD_wantsLabel : XS yX8_wantsLabel cX8_wantsLabel 2 (some .boolean) (xrm 2 44) FD_wantsLabel := by
  refine XS.of (own := RX8) (by decide) rfl (rk := 6) rfl (tD_wantsLabel) (fun vs h r hr => ?_)
  unfold FD_wantsLabel at hr
  split at hr
  · exact ⟨rfl, Nat.le_of_ble_eq_true rfl, hr⟩
  · cases hr
-- LineDiagram.labelPlaces()I
def rD_labelPlaces : List (Nat × XRow) := [(0, (.iconst 0, 1, 0, .int (0 : Int32), [])),
  (1, (.istore_n 1, 2, 1, .null, [])),
  (2, (.iconst 0, 3, 0, .int (0 : Int32), [])),
  (3, (.istore_n 2, 4, 2, .null, [])),
  (4, (.iload_n 2, 5, 2, .null, [])),
  (5, (.sipush 1600, 8, 0, .int (1600 : Int32), [])),
  (8, (.if_icmp .ge 44, 11, 52, .null, [])),
  (11, (.aload_n 0, 12, 0, .null, [])),
  (12, (.iload_n 2, 13, 2, .null, [])),
  (13, (.invokevirtual 317, 16, 317, .null, [])),
  (16, (.ifCond .eq 14, 19, 30, .null, [])),
  (19, (.aload_n 0, 20, 0, .null, [])),
  (20, (.getfield 54, 23, 54, .null, [])),
  (23, (.iload_n 2, 24, 2, .null, [])),
  (24, (.invokevirtual 186, 27, 186, .null, [])),
  (27, (.goto 5, 30, 32, .null, [])),
  (30, (.bipush (-2), 32, 0, .int (-2 : Int32), [])),
  (32, (.istore_n 3, 33, 3, .null, [])),
  (33, (.iload_n 3, 34, 3, .null, [])),
  (34, (.ifCond .lt 12, 37, 46, .null, [])),
  (37, (.aload_n 0, 38, 0, .null, [])),
  (38, (.iload_n 2, 39, 2, .null, [])),
  (39, (.iload_n 3, 40, 3, .null, [])),
  (40, (.invokevirtual 176, 43, 176, .null, [])),
  (43, (.iinc 1 1, 46, 1, .int (1 : Int32), [])),
  (46, (.iinc 2 1, 49, 2, .int (1 : Int32), [])),
  (49, (.goto (-45), 52, 4, .null, [])),
  (52, (.iload_n 1, 53, 1, .null, [])),
  (53, (.ireturn, 54, 0, .null, []))]
def mD_labelPlaces : List (Nat × XM) := [(176, (3, 0, some 8, FD_putLabel)), (186, (2, 1, some 0, FB_firstFit)), (317, (2, 1, some 8, FD_wantsLabel))]
abbrev BD_labelPlaces : XB := (rD_labelPlaces, XFT_D, mD_labelPlaces, 1, XST_D)
set_option maxRecDepth 100000 in
theorem kD_labelPlaces : XOK BD_labelPlaces cX8_labelPlaces 4 RX8 5 115 := xok_of (cps := []) (K := XKT_D) (by decide +kernel) XKT_D_ok (fun _ h => absurd h List.not_mem_nil) XFT_D_ok (List.forall_mem_cons.mpr ⟨⟨_, _, _, _, _, _, _, SD_putLabel, rfl, rfl, Nat.le_of_ble_eq_true rfl, Nat.le_of_ble_eq_true rfl, cdD_putLabel, lkD_176, imD_putLabel, slD_putLabel, inD_putLabel, pmD_putLabel⟩, List.forall_mem_cons.mpr ⟨⟨_, _, _, _, _, _, _, SB_firstFit, rfl, rfl, Nat.le_of_ble_eq_true rfl, Nat.le_of_ble_eq_true rfl, cdB_firstFit, lkD_186, imB_firstFit, slB_firstFit, inB_firstFit, pmB_firstFit⟩, List.forall_mem_cons.mpr ⟨⟨_, _, _, _, _, _, _, SD_wantsLabel, rfl, rfl, Nat.le_of_ble_eq_true rfl, Nat.le_of_ble_eq_true rfl, cdD_wantsLabel, lkD_317, imD_wantsLabel, slD_wantsLabel, inD_wantsLabel, pmD_wantsLabel⟩, fun _ h => absurd h List.not_mem_nil⟩⟩⟩) XST_D_ok
def wD_labelPlaces_32 (f : Nat → Int32 → Int32 → Int32 → XH → XR) : List Value → List Value → XH → XR := fun vs st h => match vs, st with
  | [.ref a0, .int x1, .int x2], [.int s0] => f a0 x1 x2 s0 h
  | _, _ => none
def wD_labelPlaces_4 (f : Nat → Int32 → Int32 → XH → XR) : List Value → List Value → XH → XR := fun vs st h => match vs, st with
  | [.ref a0, .int x1, .int x2], [] => f a0 x1 x2 h
  | _, _ => none
def wD_labelPlaces (f : Nat → XH → XR) : List Value → List Value → XH → XR := fun vs st h => match vs, st with
  | [.ref a0], [] => f a0 h
  | _, _ => none
set_option maxRecDepth 100000 in
theorem eD_labelPlaces_32 (k4 : Nat → Int32 → Int32 → XH → XR) (a0 : Nat) (x1 : Int32) (x2 : Int32) (s0 : Int32) (h : XH) : qD_labelPlaces_32 k4 a0 x1 x2 s0 h = xrun BD_labelPlaces (xfind [(4, ([0, 1, 2], wD_labelPlaces_4 (k4)))]) 32 32 (List.zip [0, 1, 2] [.ref a0, .int x1, .int x2]) [.int s0] h := rfl
theorem tD_labelPlaces_32 {k4 : Nat → Int32 → Int32 → XH → XR} (hk4 : XTo cX8_labelPlaces 4 RX8 1 5 115 4 [0, 1, 2] (wD_labelPlaces_4 k4)) : XTo cX8_labelPlaces 4 RX8 1 5 115 32 [0, 1, 2] (wD_labelPlaces_32 (qD_labelPlaces_32 k4)) := by
  refine XTo.run (B := BD_labelPlaces) (cut := xfind [(4, ([0, 1, 2], wD_labelPlaces_4 (k4)))]) kD_labelPlaces (xcuts_ok (List.forall_mem_cons.mpr ⟨hk4, fun _ h => absurd h List.not_mem_nil⟩)) 32 (fun vs st h r hr => ?_)
  unfold wD_labelPlaces_32 at hr
  split at hr
  · exact (eD_labelPlaces_32 k4 _ _ _ _ _).symm.trans hr
  · cases hr
set_option maxRecDepth 100000 in
theorem eD_labelPlaces_4_b (k4 : Nat → Int32 → Int32 → XH → XR) (a0 : Nat) (x1 : Int32) (x2 : Int32) (h : XH) : qD_labelPlaces_4_b k4 a0 x1 x2 h = xrun BD_labelPlaces (xfind [(32, ([0, 1, 2], wD_labelPlaces_32 (qD_labelPlaces_32 k4)))]) 32 4 (List.zip [0, 1, 2] [.ref a0, .int x1, .int x2]) [] h := rfl
theorem tD_labelPlaces_4_b {k4 : Nat → Int32 → Int32 → XH → XR} (hk4 : XTo cX8_labelPlaces 4 RX8 1 5 115 4 [0, 1, 2] (wD_labelPlaces_4 k4)) : XTo cX8_labelPlaces 4 RX8 1 5 115 4 [0, 1, 2] (wD_labelPlaces_4 (qD_labelPlaces_4_b k4)) := by
  refine XTo.run (B := BD_labelPlaces) (cut := xfind [(32, ([0, 1, 2], wD_labelPlaces_32 (qD_labelPlaces_32 k4)))]) kD_labelPlaces (xcuts_ok (List.forall_mem_cons.mpr ⟨tD_labelPlaces_32 hk4, fun _ h => absurd h List.not_mem_nil⟩)) 32 (fun vs st h r hr => ?_)
  unfold wD_labelPlaces_4 at hr
  split at hr
  · exact (eD_labelPlaces_4_b k4 _ _ _ _).symm.trans hr
  · cases hr
theorem tD_labelPlaces_4 : ∀ n : Nat, XTo cX8_labelPlaces 4 RX8 1 5 115 4 [0, 1, 2] (wD_labelPlaces_4 (qD_labelPlaces_4 n)) := by
  intro n
  induction n with
  | zero =>
    refine XTo.none fun vs st h => ?_
    unfold wD_labelPlaces_4
    split <;> rfl
  | succ n ih => exact tD_labelPlaces_4_b  ih
set_option maxRecDepth 100000 in
theorem eD_labelPlaces (a0 : Nat) (h : XH) : qD_labelPlaces a0 h = xrun BD_labelPlaces (xfind [(4, ([0, 1, 2], wD_labelPlaces_4 (qD_labelPlaces_4 LF)))]) 32 0 (List.zip [0] [.ref a0]) [] h := rfl
theorem tD_labelPlaces : XTo cX8_labelPlaces 4 RX8 1 5 115 0 [0] (wD_labelPlaces (qD_labelPlaces)) := by
  refine XTo.run (B := BD_labelPlaces) (cut := xfind [(4, ([0, 1, 2], wD_labelPlaces_4 (qD_labelPlaces_4 LF)))]) kD_labelPlaces (xcuts_ok (List.forall_mem_cons.mpr ⟨tD_labelPlaces_4 LF, fun _ h => absurd h List.not_mem_nil⟩)) 32 (fun vs st h r hr => ?_)
  unfold wD_labelPlaces at hr
  split at hr
  · exact (eD_labelPlaces _ _).symm.trans hr
  · cases hr
def FD_labelPlaces : List Value → XH → XR := fun vs h => match vs with
  | [.ref a0] => qD_labelPlaces a0 h
  | _ => none
theorem SD_labelPlaces : XS yX8_labelPlaces cX8_labelPlaces 4 (some .int) (xrm 5 115) FD_labelPlaces := by
  refine XS.of (own := RX8) (by decide) rfl (rk := 1) rfl (tD_labelPlaces) (fun vs h r hr => ?_)
  unfold FD_labelPlaces at hr
  split at hr
  · exact ⟨rfl, Nat.le_of_ble_eq_true rfl, hr⟩
  · cases hr
-- LineDiagram.labelAll()I
def rD_labelAll : List (Nat × XRow) := [(0, (.aload_n 0, 1, 0, .null, [])),
  (1, (.getfield 47, 4, 47, .null, [])),
  (4, (.aload_n 0, 5, 0, .null, [])),
  (5, (.getfield 29, 8, 29, .null, [])),
  (8, (.invokevirtual 173, 11, 173, .null, [])),
  (11, (.aload_n 0, 12, 0, .null, [])),
  (12, (.invokevirtual 192, 15, 192, .null, [])),
  (15, (.ireturn, 16, 0, .null, []))]
def mD_labelAll : List (Nat × XM) := [(173, (2, 0, some 1, FH_push)), (192, (1, 1, some 8, FD_labelPlaces))]
abbrev BD_labelAll : XB := (rD_labelAll, XFT_D, mD_labelAll, 1, XST_D)
set_option maxRecDepth 100000 in
theorem kD_labelAll : XOK BD_labelAll cX8_labelAll 1 RX8 6 138 := xok_of (cps := []) (K := XKT_D) (by decide +kernel) XKT_D_ok (fun _ h => absurd h List.not_mem_nil) XFT_D_ok (List.forall_mem_cons.mpr ⟨⟨_, _, _, _, _, _, _, SH_push, rfl, rfl, Nat.le_of_ble_eq_true rfl, Nat.le_of_ble_eq_true rfl, cdH_push, lkD_173, imH_push, slH_push, inH_push, pmH_push⟩, List.forall_mem_cons.mpr ⟨⟨_, _, _, _, _, _, _, SD_labelPlaces, rfl, rfl, Nat.le_of_ble_eq_true rfl, Nat.le_of_ble_eq_true rfl, cdD_labelPlaces, lkD_192, imD_labelPlaces, slD_labelPlaces, inD_labelPlaces, pmD_labelPlaces⟩, fun _ h => absurd h List.not_mem_nil⟩⟩) XST_D_ok
def wD_labelAll (f : Nat → XH → XR) : List Value → List Value → XH → XR := fun vs st h => match vs, st with
  | [.ref a0], [] => f a0 h
  | _, _ => none
set_option maxRecDepth 100000 in
theorem eD_labelAll (a0 : Nat) (h : XH) : qD_labelAll a0 h = xrun BD_labelAll (xfind []) 11 0 (List.zip [0] [.ref a0]) [] h := rfl
theorem tD_labelAll : XTo cX8_labelAll 1 RX8 1 6 138 0 [0] (wD_labelAll (qD_labelAll)) := by
  refine XTo.run (B := BD_labelAll) (cut := xfind []) kD_labelAll (xcuts_ok (fun _ h => absurd h List.not_mem_nil)) 11 (fun vs st h r hr => ?_)
  unfold wD_labelAll at hr
  split at hr
  · exact (eD_labelAll _ _).symm.trans hr
  · cases hr
def FD_labelAll : List Value → XH → XR := fun vs h => match vs with
  | [.ref a0] => qD_labelAll a0 h
  | _ => none
theorem SD_labelAll : XS yX8_labelAll cX8_labelAll 1 (some .int) (xrm 6 138) FD_labelAll := by
  refine XS.of (own := RX8) (by decide) rfl (rk := 1) rfl (tD_labelAll) (fun vs h r hr => ?_)
  unfold FD_labelAll at hr
  split at hr
  · exact ⟨rfl, Nat.le_of_ble_eq_true rfl, hr⟩
  · cases hr
-- LineDiagramModel.labels()I
def rM_labels : List (Nat × XRow) := [(0, (.iconst 0, 1, 0, .int (0 : Int32), [])),
  (1, (.istore_n 1, 2, 1, .null, [])),
  (2, (.iconst 0, 3, 0, .int (0 : Int32), [])),
  (3, (.istore_n 2, 4, 2, .null, [])),
  (4, (.iload_n 2, 5, 2, .null, [])),
  (5, (.sipush 1600, 8, 0, .int (1600 : Int32), [])),
  (8, (.if_icmp .ge 49, 11, 57, .null, [])),
  (11, (.aload_n 0, 12, 0, .null, [])),
  (12, (.iload_n 2, 13, 2, .null, [])),
  (13, (.invokevirtual 196, 16, 196, .null, [])),
  (16, (.ifCond .eq 19, 19, 35, .null, [])),
  (19, (.aload_n 0, 20, 0, .null, [])),
  (20, (.iload_n 2, 21, 2, .null, [])),
  (21, (.invokevirtual 187, 24, 187, .null, [])),
  (24, (.ifCond .ge 11, 27, 35, .null, [])),
  (27, (.aload_n 0, 28, 0, .null, [])),
  (28, (.iload_n 2, 29, 2, .null, [])),
  (29, (.invokevirtual 202, 32, 202, .null, [])),
  (32, (.goto 5, 35, 37, .null, [])),
  (35, (.bipush (-2), 37, 0, .int (-2 : Int32), [])),
  (37, (.istore_n 3, 38, 3, .null, [])),
  (38, (.iload_n 3, 39, 3, .null, [])),
  (39, (.ifCond .lt 12, 42, 51, .null, [])),
  (42, (.aload_n 0, 43, 0, .null, [])),
  (43, (.iload_n 2, 44, 2, .null, [])),
  (44, (.iload_n 3, 45, 3, .null, [])),
  (45, (.invokevirtual 205, 48, 205, .null, [])),
  (48, (.iinc 1 1, 51, 1, .int (1 : Int32), [])),
  (51, (.iinc 2 1, 54, 2, .int (1 : Int32), [])),
  (54, (.goto (-50), 57, 4, .null, [])),
  (57, (.iload_n 1, 58, 1, .null, [])),
  (58, (.ireturn, 59, 0, .null, []))]
def mM_labels : List (Nat × XM) := [(187, (2, 1, some 9, FM_labelOf)), (196, (2, 1, some 9, FM_isPlace)), (202, (2, 1, some 9, FM_firstFree)), (205, (3, 0, some 9, FM_gets))]
abbrev BM_labels : XB := (rM_labels, XFT_M, mM_labels, 1, XST_M)
set_option maxRecDepth 100000 in
theorem kM_labels : XOK BM_labels cX9_labels 4 RX9 4 93 := xok_of (cps := []) (K := XKT_M) (by decide +kernel) XKT_M_ok (fun _ h => absurd h List.not_mem_nil) XFT_M_ok (List.forall_mem_cons.mpr ⟨⟨_, _, _, _, _, _, _, SM_labelOf, rfl, rfl, Nat.le_of_ble_eq_true rfl, Nat.le_of_ble_eq_true rfl, cdM_labelOf, lkM_187, imM_labelOf, slM_labelOf, inM_labelOf, pmM_labelOf⟩, List.forall_mem_cons.mpr ⟨⟨_, _, _, _, _, _, _, SM_isPlace, rfl, rfl, Nat.le_of_ble_eq_true rfl, Nat.le_of_ble_eq_true rfl, cdM_isPlace, lkM_196, imM_isPlace, slM_isPlace, inM_isPlace, pmM_isPlace⟩, List.forall_mem_cons.mpr ⟨⟨_, _, _, _, _, _, _, SM_firstFree, rfl, rfl, Nat.le_of_ble_eq_true rfl, Nat.le_of_ble_eq_true rfl, cdM_firstFree, lkM_202, imM_firstFree, slM_firstFree, inM_firstFree, pmM_firstFree⟩, List.forall_mem_cons.mpr ⟨⟨_, _, _, _, _, _, _, SM_gets, rfl, rfl, Nat.le_of_ble_eq_true rfl, Nat.le_of_ble_eq_true rfl, cdM_gets, lkM_205, imM_gets, slM_gets, inM_gets, pmM_gets⟩, fun _ h => absurd h List.not_mem_nil⟩⟩⟩⟩) XST_M_ok
def wM_labels_37 (f : Nat → Int32 → Int32 → Int32 → XH → XR) : List Value → List Value → XH → XR := fun vs st h => match vs, st with
  | [.ref a0, .int x1, .int x2], [.int s0] => f a0 x1 x2 s0 h
  | _, _ => none
def wM_labels_35 (f : Nat → Int32 → Int32 → XH → XR) : List Value → List Value → XH → XR := fun vs st h => match vs, st with
  | [.ref a0, .int x1, .int x2], [] => f a0 x1 x2 h
  | _, _ => none
def wM_labels_4 (f : Nat → Int32 → Int32 → XH → XR) : List Value → List Value → XH → XR := fun vs st h => match vs, st with
  | [.ref a0, .int x1, .int x2], [] => f a0 x1 x2 h
  | _, _ => none
def wM_labels (f : Nat → XH → XR) : List Value → List Value → XH → XR := fun vs st h => match vs, st with
  | [.ref a0], [] => f a0 h
  | _, _ => none
set_option maxRecDepth 100000 in
theorem eM_labels_37 (k4 : Nat → Int32 → Int32 → XH → XR) (a0 : Nat) (x1 : Int32) (x2 : Int32) (s0 : Int32) (h : XH) : qM_labels_37 k4 a0 x1 x2 s0 h = xrun BM_labels (xfind [(4, ([0, 1, 2], wM_labels_4 (k4)))]) 35 37 (List.zip [0, 1, 2] [.ref a0, .int x1, .int x2]) [.int s0] h := rfl
theorem tM_labels_37 {k4 : Nat → Int32 → Int32 → XH → XR} (hk4 : XTo cX9_labels 4 RX9 1 4 93 4 [0, 1, 2] (wM_labels_4 k4)) : XTo cX9_labels 4 RX9 1 4 93 37 [0, 1, 2] (wM_labels_37 (qM_labels_37 k4)) := by
  refine XTo.run (B := BM_labels) (cut := xfind [(4, ([0, 1, 2], wM_labels_4 (k4)))]) kM_labels (xcuts_ok (List.forall_mem_cons.mpr ⟨hk4, fun _ h => absurd h List.not_mem_nil⟩)) 35 (fun vs st h r hr => ?_)
  unfold wM_labels_37 at hr
  split at hr
  · exact (eM_labels_37 k4 _ _ _ _ _).symm.trans hr
  · cases hr
set_option maxRecDepth 100000 in
theorem eM_labels_35 (k4 : Nat → Int32 → Int32 → XH → XR) (a0 : Nat) (x1 : Int32) (x2 : Int32) (h : XH) : qM_labels_35 k4 a0 x1 x2 h = xrun BM_labels (xfind [(37, ([0, 1, 2], wM_labels_37 (qM_labels_37 k4)))]) 35 35 (List.zip [0, 1, 2] [.ref a0, .int x1, .int x2]) [] h := rfl
theorem tM_labels_35 {k4 : Nat → Int32 → Int32 → XH → XR} (hk4 : XTo cX9_labels 4 RX9 1 4 93 4 [0, 1, 2] (wM_labels_4 k4)) : XTo cX9_labels 4 RX9 1 4 93 35 [0, 1, 2] (wM_labels_35 (qM_labels_35 k4)) := by
  refine XTo.run (B := BM_labels) (cut := xfind [(37, ([0, 1, 2], wM_labels_37 (qM_labels_37 k4)))]) kM_labels (xcuts_ok (List.forall_mem_cons.mpr ⟨tM_labels_37 hk4, fun _ h => absurd h List.not_mem_nil⟩)) 35 (fun vs st h r hr => ?_)
  unfold wM_labels_35 at hr
  split at hr
  · exact (eM_labels_35 k4 _ _ _ _).symm.trans hr
  · cases hr
set_option maxRecDepth 100000 in
theorem eM_labels_4_b (k4 : Nat → Int32 → Int32 → XH → XR) (a0 : Nat) (x1 : Int32) (x2 : Int32) (h : XH) : qM_labels_4_b k4 a0 x1 x2 h = xrun BM_labels (xfind [(35, ([0, 1, 2], wM_labels_35 (qM_labels_35 k4))), (37, ([0, 1, 2], wM_labels_37 (qM_labels_37 k4)))]) 35 4 (List.zip [0, 1, 2] [.ref a0, .int x1, .int x2]) [] h := rfl
theorem tM_labels_4_b {k4 : Nat → Int32 → Int32 → XH → XR} (hk4 : XTo cX9_labels 4 RX9 1 4 93 4 [0, 1, 2] (wM_labels_4 k4)) : XTo cX9_labels 4 RX9 1 4 93 4 [0, 1, 2] (wM_labels_4 (qM_labels_4_b k4)) := by
  refine XTo.run (B := BM_labels) (cut := xfind [(35, ([0, 1, 2], wM_labels_35 (qM_labels_35 k4))), (37, ([0, 1, 2], wM_labels_37 (qM_labels_37 k4)))]) kM_labels (xcuts_ok (List.forall_mem_cons.mpr ⟨tM_labels_35 hk4, List.forall_mem_cons.mpr ⟨tM_labels_37 hk4, fun _ h => absurd h List.not_mem_nil⟩⟩)) 35 (fun vs st h r hr => ?_)
  unfold wM_labels_4 at hr
  split at hr
  · exact (eM_labels_4_b k4 _ _ _ _).symm.trans hr
  · cases hr
theorem tM_labels_4 : ∀ n : Nat, XTo cX9_labels 4 RX9 1 4 93 4 [0, 1, 2] (wM_labels_4 (qM_labels_4 n)) := by
  intro n
  induction n with
  | zero =>
    refine XTo.none fun vs st h => ?_
    unfold wM_labels_4
    split <;> rfl
  | succ n ih => exact tM_labels_4_b  ih
set_option maxRecDepth 100000 in
theorem eM_labels (a0 : Nat) (h : XH) : qM_labels a0 h = xrun BM_labels (xfind [(4, ([0, 1, 2], wM_labels_4 (qM_labels_4 LF)))]) 35 0 (List.zip [0] [.ref a0]) [] h := rfl
theorem tM_labels : XTo cX9_labels 4 RX9 1 4 93 0 [0] (wM_labels (qM_labels)) := by
  refine XTo.run (B := BM_labels) (cut := xfind [(4, ([0, 1, 2], wM_labels_4 (qM_labels_4 LF)))]) kM_labels (xcuts_ok (List.forall_mem_cons.mpr ⟨tM_labels_4 LF, fun _ h => absurd h List.not_mem_nil⟩)) 35 (fun vs st h r hr => ?_)
  unfold wM_labels at hr
  split at hr
  · exact (eM_labels _ _).symm.trans hr
  · cases hr
def FM_labels : List Value → XH → XR := fun vs h => match vs with
  | [.ref a0] => qM_labels a0 h
  | _ => none
theorem SM_labels : XS yX9_labels cX9_labels 4 (some .int) (xrm 4 93) FM_labels := by
  refine XS.of (own := RX9) (by decide) rfl (rk := 1) rfl (tM_labels) (fun vs h r hr => ?_)
  unfold FM_labels at hr
  split at hr
  · exact ⟨rfl, Nat.le_of_ble_eq_true rfl, hr⟩
  · cases hr
-- LineDiagramModel.labelAll()I
def rM_labelAll : List (Nat × XRow) := [(0, (.aload_n 0, 1, 0, .null, [])),
  (1, (.invokevirtual 340, 4, 340, .null, [])),
  (4, (.aload_n 0, 5, 0, .null, [])),
  (5, (.invokevirtual 380, 8, 380, .null, [])),
  (8, (.aload_n 0, 9, 0, .null, [])),
  (9, (.invokevirtual 389, 12, 389, .null, [])),
  (12, (.ireturn, 13, 0, .null, []))]
def mM_labelAll : List (Nat × XM) := [(340, (1, 0, some 9, FM_remembers)), (380, (1, 0, some 9, FM_lays)), (389, (1, 1, some 9, FM_labels))]
abbrev BM_labelAll : XB := (rM_labelAll, XFT_M, mM_labelAll, 1, XST_M)
set_option maxRecDepth 100000 in
theorem kM_labelAll : XOK BM_labelAll cX9_labelAll 1 RX9 6 138 := xok_of (cps := []) (K := XKT_M) (by decide +kernel) XKT_M_ok (fun _ h => absurd h List.not_mem_nil) XFT_M_ok (List.forall_mem_cons.mpr ⟨⟨_, _, _, _, _, _, _, SM_remembers, rfl, rfl, Nat.le_of_ble_eq_true rfl, Nat.le_of_ble_eq_true rfl, cdM_remembers, lkM_340, imM_remembers, slM_remembers, inM_remembers, pmM_remembers⟩, List.forall_mem_cons.mpr ⟨⟨_, _, _, _, _, _, _, SM_lays, rfl, rfl, Nat.le_of_ble_eq_true rfl, Nat.le_of_ble_eq_true rfl, cdM_lays, lkM_380, imM_lays, slM_lays, inM_lays, pmM_lays⟩, List.forall_mem_cons.mpr ⟨⟨_, _, _, _, _, _, _, SM_labels, rfl, rfl, Nat.le_of_ble_eq_true rfl, Nat.le_of_ble_eq_true rfl, cdM_labels, lkM_389, imM_labels, slM_labels, inM_labels, pmM_labels⟩, fun _ h => absurd h List.not_mem_nil⟩⟩⟩) XST_M_ok
def wM_labelAll (f : Nat → XH → XR) : List Value → List Value → XH → XR := fun vs st h => match vs, st with
  | [.ref a0], [] => f a0 h
  | _, _ => none
set_option maxRecDepth 100000 in
theorem eM_labelAll (a0 : Nat) (h : XH) : qM_labelAll a0 h = xrun BM_labelAll (xfind []) 10 0 (List.zip [0] [.ref a0]) [] h := rfl
theorem tM_labelAll : XTo cX9_labelAll 1 RX9 1 6 138 0 [0] (wM_labelAll (qM_labelAll)) := by
  refine XTo.run (B := BM_labelAll) (cut := xfind []) kM_labelAll (xcuts_ok (fun _ h => absurd h List.not_mem_nil)) 10 (fun vs st h r hr => ?_)
  unfold wM_labelAll at hr
  split at hr
  · exact (eM_labelAll _ _).symm.trans hr
  · cases hr
def FM_labelAll : List Value → XH → XR := fun vs h => match vs with
  | [.ref a0] => qM_labelAll a0 h
  | _ => none
theorem SM_labelAll : XS yX9_labelAll cX9_labelAll 1 (some .int) (xrm 6 138) FM_labelAll := by
  refine XS.of (own := RX9) (by decide) rfl (rk := 1) rfl (tM_labelAll) (fun vs h r hr => ?_)
  unfold FM_labelAll at hr
  split at hr
  · exact ⟨rfl, Nat.le_of_ble_eq_true rfl, hr⟩
  · cases hr
-- LineDiagram.isSlot(I)Z
def rD_isSlot : List (Nat × XRow) := [(0, (.iload_n 0, 1, 0, .null, [])),
  (1, (.ifCond .lt 12, 4, 13, .null, [])),
  (4, (.iload_n 0, 5, 0, .null, [])),
  (5, (.iconst 2, 6, 0, .int (2 : Int32), [])),
  (6, (.if_icmp .ge 7, 9, 13, .null, [])),
  (9, (.iconst 1, 10, 0, .int (1 : Int32), [])),
  (10, (.goto 4, 13, 14, .null, [])),
  (13, (.iconst 0, 14, 0, .int (0 : Int32), [])),
  (14, (.ireturn, 15, 0, .null, []))]
def mD_isSlot : List (Nat × XM) := []
abbrev BD_isSlot : XB := (rD_isSlot, XFT_D, mD_isSlot, 6, XST_D)
set_option maxRecDepth 100000 in
theorem kD_isSlot : XOK BD_isSlot cX8_isSlot 1 RX8 0 0 := xok_of (cps := []) (K := XKT_D) (by decide +kernel) XKT_D_ok (fun _ h => absurd h List.not_mem_nil) XFT_D_ok (fun _ h => absurd h List.not_mem_nil) XST_D_ok
def wD_isSlot (f : Int32 → XH → XR) : List Value → List Value → XH → XR := fun vs st h => match vs, st with
  | [.int x0], [] => f x0 h
  | _, _ => none
set_option maxRecDepth 100000 in
theorem eD_isSlot (x0 : Int32) (h : XH) : qD_isSlot x0 h = xrun BD_isSlot (xfind []) 12 0 (List.zip [0] [.int x0]) [] h := rfl
theorem tD_isSlot : XTo cX8_isSlot 1 RX8 6 0 0 0 [0] (wD_isSlot (qD_isSlot)) := by
  refine XTo.run (B := BD_isSlot) (cut := xfind []) kD_isSlot (xcuts_ok (fun _ h => absurd h List.not_mem_nil)) 12 (fun vs st h r hr => ?_)
  unfold wD_isSlot at hr
  split at hr
  · exact (eD_isSlot _ _).symm.trans hr
  · cases hr
def FD_isSlot : List Value → XH → XR := fun vs h => match vs with
  | [.int x0] => qD_isSlot x0 h
  | _ => none
theorem SD_isSlot : XS yX8_isSlot cX8_isSlot 1 (some .boolean) (xrm 0 0) FD_isSlot := by
  refine XS.of (own := RX8) (by decide) rfl (rk := 6) rfl (tD_isSlot) (fun vs h r hr => ?_)
  unfold FD_isSlot at hr
  split at hr
  · exact ⟨rfl, Nat.le_of_ble_eq_true rfl, hr⟩
  · cases hr
-- LineDiagram.keep(I)I
def rD_keep : List (Nat × XRow) := [(0, (.iload_n 1, 1, 1, .null, [])),
  (1, (.invokestatic 196, 4, 196, .null, [])),
  (4, (.ifCond .ne 5, 7, 9, .null, [])),
  (7, (.iconst (-1), 8, 0, .int (-1 : Int32), [])),
  (8, (.ireturn, 9, 0, .null, [])),
  (9, (.aload_n 0, 10, 0, .null, [])),
  (10, (.getfield 36, 13, 36, .null, [])),
  (13, (.iload_n 1, 14, 1, .null, [])),
  (14, (.aaload, 15, 0, .null, [])),
  (15, (.aload_n 0, 16, 0, .null, [])),
  (16, (.getfield 29, 19, 29, .null, [])),
  (19, (.invokevirtual 94, 22, 94, .null, [])),
  (22, (.aload_n 0, 23, 0, .null, [])),
  (23, (.getfield 40, 26, 40, .null, [])),
  (26, (.iload_n 1, 27, 1, .null, [])),
  (27, (.iconst 1, 28, 0, .int (1 : Int32), [])),
  (28, (.bastore, 29, 0, .null, [])),
  (29, (.aload_n 0, 30, 0, .null, [])),
  (30, (.getfield 29, 33, 29, .null, [])),
  (33, (.getfield 161, 36, 161, .null, [])),
  (36, (.getfield 199, 39, 199, .null, [])),
  (39, (.ireturn, 40, 0, .null, []))]
def mD_keep : List (Nat × XM) := [(94, (2, 0, some 5, FP_copyFrom)), (196, (1, 1, none, FD_isSlot))]
abbrev BD_keep : XB := (rD_keep, XFT_D, mD_keep, 1, XST_D)
set_option maxRecDepth 100000 in
theorem kD_keep : XOK BD_keep cX8_keep 2 RX8 3 107 := xok_of (cps := []) (K := XKT_D) (by decide +kernel) XKT_D_ok (fun _ h => absurd h List.not_mem_nil) XFT_D_ok (List.forall_mem_cons.mpr ⟨⟨_, _, _, _, _, _, _, SP_copyFrom, rfl, rfl, Nat.le_of_ble_eq_true rfl, Nat.le_of_ble_eq_true rfl, cdP_copyFrom, lkD_94, imP_copyFrom, slP_copyFrom, inP_copyFrom, pmP_copyFrom⟩, List.forall_mem_cons.mpr ⟨⟨_, _, _, _, _, _, SD_isSlot, Nat.le_of_ble_eq_true rfl, Nat.le_of_ble_eq_true rfl, cdD_isSlot, lkD_196, imD_isSlot, inD_isSlot, pmD_isSlot⟩, fun _ h => absurd h List.not_mem_nil⟩⟩) XST_D_ok
def wD_keep (f : Nat → Int32 → XH → XR) : List Value → List Value → XH → XR := fun vs st h => match vs, st with
  | [.ref a0, .int x1], [] => f a0 x1 h
  | _, _ => none
set_option maxRecDepth 100000 in
theorem eD_keep (a0 : Nat) (x1 : Int32) (h : XH) : qD_keep a0 x1 h = xrun BD_keep (xfind []) 25 0 (List.zip [0, 1] [.ref a0, .int x1]) [] h := rfl
theorem tD_keep : XTo cX8_keep 2 RX8 1 3 107 0 [0, 1] (wD_keep (qD_keep)) := by
  refine XTo.run (B := BD_keep) (cut := xfind []) kD_keep (xcuts_ok (fun _ h => absurd h List.not_mem_nil)) 25 (fun vs st h r hr => ?_)
  unfold wD_keep at hr
  split at hr
  · exact (eD_keep _ _ _).symm.trans hr
  · cases hr
def FD_keep : List Value → XH → XR := fun vs h => match vs with
  | [.ref a0, .int x1] => qD_keep a0 x1 h
  | _ => none
theorem SD_keep : XS yX8_keep cX8_keep 2 (some .int) (xrm 3 107) FD_keep := by
  refine XS.of (own := RX8) (by decide) rfl (rk := 1) rfl (tD_keep) (fun vs h r hr => ?_)
  unfold FD_keep at hr
  split at hr
  · exact ⟨rfl, Nat.le_of_ble_eq_true rfl, hr⟩
  · cases hr
-- LineDiagramModel.manyLabels()I
def rM_manyLabels : List (Nat × XRow) := [(0, (.iconst 0, 1, 0, .int (0 : Int32), [])),
  (1, (.istore_n 1, 2, 1, .null, [])),
  (2, (.iconst 0, 3, 0, .int (0 : Int32), [])),
  (3, (.istore_n 2, 4, 2, .null, [])),
  (4, (.iload_n 2, 5, 2, .null, [])),
  (5, (.sipush 1600, 8, 0, .int (1600 : Int32), [])),
  (8, (.if_icmp .ge 25, 11, 33, .null, [])),
  (11, (.iload_n 1, 12, 1, .null, [])),
  (12, (.aload_n 0, 13, 0, .null, [])),
  (13, (.iload_n 2, 14, 2, .null, [])),
  (14, (.invokevirtual 187, 17, 187, .null, [])),
  (17, (.ifCond .lt 7, 20, 24, .null, [])),
  (20, (.iconst 1, 21, 0, .int (1 : Int32), [])),
  (21, (.goto 4, 24, 25, .null, [])),
  (24, (.iconst 0, 25, 0, .int (0 : Int32), [])),
  (25, (.iadd, 26, 0, .null, [])),
  (26, (.istore_n 1, 27, 1, .null, [])),
  (27, (.iinc 2 1, 30, 2, .int (1 : Int32), [])),
  (30, (.goto (-26), 33, 4, .null, [])),
  (33, (.iload_n 1, 34, 1, .null, [])),
  (34, (.ireturn, 35, 0, .null, []))]
def mM_manyLabels : List (Nat × XM) := [(187, (2, 1, some 9, FM_labelOf))]
abbrev BM_manyLabels : XB := (rM_manyLabels, XFT_M, mM_manyLabels, 1, XST_M)
set_option maxRecDepth 100000 in
theorem kM_manyLabels : XOK BM_manyLabels cX9_manyLabels 3 RX9 1 21 := xok_of (cps := []) (K := XKT_M) (by decide +kernel) XKT_M_ok (fun _ h => absurd h List.not_mem_nil) XFT_M_ok (List.forall_mem_cons.mpr ⟨⟨_, _, _, _, _, _, _, SM_labelOf, rfl, rfl, Nat.le_of_ble_eq_true rfl, Nat.le_of_ble_eq_true rfl, cdM_labelOf, lkM_187, imM_labelOf, slM_labelOf, inM_labelOf, pmM_labelOf⟩, fun _ h => absurd h List.not_mem_nil⟩) XST_M_ok
def wM_manyLabels_4 (f : Nat → Int32 → Int32 → XH → XR) : List Value → List Value → XH → XR := fun vs st h => match vs, st with
  | [.ref a0, .int x1, .int x2], [] => f a0 x1 x2 h
  | _, _ => none
def wM_manyLabels (f : Nat → XH → XR) : List Value → List Value → XH → XR := fun vs st h => match vs, st with
  | [.ref a0], [] => f a0 h
  | _, _ => none
set_option maxRecDepth 100000 in
theorem eM_manyLabels_4_b (k4 : Nat → Int32 → Int32 → XH → XR) (a0 : Nat) (x1 : Int32) (x2 : Int32) (h : XH) : qM_manyLabels_4_b k4 a0 x1 x2 h = xrun BM_manyLabels (xfind [(4, ([0, 1, 2], wM_manyLabels_4 (k4)))]) 24 4 (List.zip [0, 1, 2] [.ref a0, .int x1, .int x2]) [] h := rfl
theorem tM_manyLabels_4_b {k4 : Nat → Int32 → Int32 → XH → XR} (hk4 : XTo cX9_manyLabels 3 RX9 1 1 21 4 [0, 1, 2] (wM_manyLabels_4 k4)) : XTo cX9_manyLabels 3 RX9 1 1 21 4 [0, 1, 2] (wM_manyLabels_4 (qM_manyLabels_4_b k4)) := by
  refine XTo.run (B := BM_manyLabels) (cut := xfind [(4, ([0, 1, 2], wM_manyLabels_4 (k4)))]) kM_manyLabels (xcuts_ok (List.forall_mem_cons.mpr ⟨hk4, fun _ h => absurd h List.not_mem_nil⟩)) 24 (fun vs st h r hr => ?_)
  unfold wM_manyLabels_4 at hr
  split at hr
  · exact (eM_manyLabels_4_b k4 _ _ _ _).symm.trans hr
  · cases hr
theorem tM_manyLabels_4 : ∀ n : Nat, XTo cX9_manyLabels 3 RX9 1 1 21 4 [0, 1, 2] (wM_manyLabels_4 (qM_manyLabels_4 n)) := by
  intro n
  induction n with
  | zero =>
    refine XTo.none fun vs st h => ?_
    unfold wM_manyLabels_4
    split <;> rfl
  | succ n ih => exact tM_manyLabels_4_b  ih
set_option maxRecDepth 100000 in
theorem eM_manyLabels (a0 : Nat) (h : XH) : qM_manyLabels a0 h = xrun BM_manyLabels (xfind [(4, ([0, 1, 2], wM_manyLabels_4 (qM_manyLabels_4 LF)))]) 24 0 (List.zip [0] [.ref a0]) [] h := rfl
theorem tM_manyLabels : XTo cX9_manyLabels 3 RX9 1 1 21 0 [0] (wM_manyLabels (qM_manyLabels)) := by
  refine XTo.run (B := BM_manyLabels) (cut := xfind [(4, ([0, 1, 2], wM_manyLabels_4 (qM_manyLabels_4 LF)))]) kM_manyLabels (xcuts_ok (List.forall_mem_cons.mpr ⟨tM_manyLabels_4 LF, fun _ h => absurd h List.not_mem_nil⟩)) 24 (fun vs st h r hr => ?_)
  unfold wM_manyLabels at hr
  split at hr
  · exact (eM_manyLabels _ _).symm.trans hr
  · cases hr
def FM_manyLabels : List Value → XH → XR := fun vs h => match vs with
  | [.ref a0] => qM_manyLabels a0 h
  | _ => none
theorem SM_manyLabels : XS yX9_manyLabels cX9_manyLabels 3 (some .int) (xrm 1 21) FM_manyLabels := by
  refine XS.of (own := RX9) (by decide) rfl (rk := 1) rfl (tM_manyLabels) (fun vs h r hr => ?_)
  unfold FM_manyLabels at hr
  split at hr
  · exact ⟨rfl, Nat.le_of_ble_eq_true rfl, hr⟩
  · cases hr
-- LineDiagramModel.keep(I)I
def rM_keep : List (Nat × XRow) := [(0, (.iload_n 1, 1, 1, .null, [])),
  (1, (.i2l, 2, 0, .null, [])),
  (2, (.lconst 0, 3, 0, .long (0 : Int64), [])),
  (3, (.lconst 1, 4, 0, .long (1 : Int64), [])),
  (4, (.invokestatic 96, 7, 96, .null, [])),
  (7, (.ifCond .ne 5, 10, 12, .null, [])),
  (10, (.iconst (-1), 11, 0, .int (-1 : Int32), [])),
  (11, (.ireturn, 12, 0, .null, [])),
  (12, (.iconst 0, 13, 0, .int (0 : Int32), [])),
  (13, (.istore_n 2, 14, 2, .null, [])),
  (14, (.iload_n 2, 15, 2, .null, [])),
  (15, (.sipush 1784, 18, 0, .int (1784 : Int32), [])),
  (18, (.if_icmp .ge 27, 21, 45, .null, [])),
  (21, (.aload_n 0, 22, 0, .null, [])),
  (22, (.getfield 30, 25, 30, .null, [])),
  (25, (.sipush 1784, 28, 0, .int (1784 : Int32), [])),
  (28, (.iload_n 1, 29, 1, .null, [])),
  (29, (.imul, 30, 0, .null, [])),
  (30, (.iload_n 2, 31, 2, .null, [])),
  (31, (.iadd, 32, 0, .null, [])),
  (32, (.aload_n 0, 33, 0, .null, [])),
  (33, (.getfield 21, 36, 21, .null, [])),
  (36, (.iload_n 2, 37, 2, .null, [])),
  (37, (.iaload, 38, 0, .null, [])),
  (38, (.iastore, 39, 0, .null, [])),
  (39, (.iinc 2 1, 42, 2, .int (1 : Int32), [])),
  (42, (.goto (-28), 45, 14, .null, [])),
  (45, (.aload_n 0, 46, 0, .null, [])),
  (46, (.getfield 33, 49, 33, .null, [])),
  (49, (.iload_n 1, 50, 1, .null, [])),
  (50, (.iconst 1, 51, 0, .int (1 : Int32), [])),
  (51, (.bastore, 52, 0, .null, [])),
  (52, (.aload_n 0, 53, 0, .null, [])),
  (53, (.invokevirtual 392, 56, 392, .null, [])),
  (56, (.ireturn, 57, 0, .null, []))]
def mM_keep : List (Nat × XM) := [(96, (3, 1, none, FM_in)), (392, (1, 1, some 9, FM_manyLabels))]
abbrev BM_keep : XB := (rM_keep, XFT_M, mM_keep, 1, XST_M)
set_option maxRecDepth 100000 in
theorem kM_keep : XOK BM_keep cX9_keep 3 RX9 2 43 := xok_of (cps := []) (K := XKT_M) (by decide +kernel) XKT_M_ok (fun _ h => absurd h List.not_mem_nil) XFT_M_ok (List.forall_mem_cons.mpr ⟨⟨_, _, _, _, _, _, SM_in, Nat.le_of_ble_eq_true rfl, Nat.le_of_ble_eq_true rfl, cdM_in, lkM_96, imM_in, inM_in, pmM_in⟩, List.forall_mem_cons.mpr ⟨⟨_, _, _, _, _, _, _, SM_manyLabels, rfl, rfl, Nat.le_of_ble_eq_true rfl, Nat.le_of_ble_eq_true rfl, cdM_manyLabels, lkM_392, imM_manyLabels, slM_manyLabels, inM_manyLabels, pmM_manyLabels⟩, fun _ h => absurd h List.not_mem_nil⟩⟩) XST_M_ok
def wM_keep_45 (f : Nat → Int32 → XH → XR) : List Value → List Value → XH → XR := fun vs st h => match vs, st with
  | [.ref a0, .int x1], [] => f a0 x1 h
  | _, _ => none
def wM_keep_14 (f : Nat → Int32 → Int32 → XH → XR) : List Value → List Value → XH → XR := fun vs st h => match vs, st with
  | [.ref a0, .int x1, .int x2], [] => f a0 x1 x2 h
  | _, _ => none
def wM_keep (f : Nat → Int32 → XH → XR) : List Value → List Value → XH → XR := fun vs st h => match vs, st with
  | [.ref a0, .int x1], [] => f a0 x1 h
  | _, _ => none
set_option maxRecDepth 100000 in
theorem eM_keep_45 (a0 : Nat) (x1 : Int32) (h : XH) : qM_keep_45 a0 x1 h = xrun BM_keep (xfind []) 38 45 (List.zip [0, 1] [.ref a0, .int x1]) [] h := rfl
theorem tM_keep_45 : XTo cX9_keep 3 RX9 1 2 43 45 [0, 1] (wM_keep_45 (qM_keep_45)) := by
  refine XTo.run (B := BM_keep) (cut := xfind []) kM_keep (xcuts_ok (fun _ h => absurd h List.not_mem_nil)) 38 (fun vs st h r hr => ?_)
  unfold wM_keep_45 at hr
  split at hr
  · exact (eM_keep_45 _ _ _).symm.trans hr
  · cases hr
set_option maxRecDepth 100000 in
theorem eM_keep_14_b (k14 : Nat → Int32 → Int32 → XH → XR) (a0 : Nat) (x1 : Int32) (x2 : Int32) (h : XH) : qM_keep_14_b k14 a0 x1 x2 h = xrun BM_keep (xfind [(14, ([0, 1, 2], wM_keep_14 (k14))), (45, ([0, 1], wM_keep_45 (qM_keep_45)))]) 38 14 (List.zip [0, 1, 2] [.ref a0, .int x1, .int x2]) [] h := rfl
theorem tM_keep_14_b {k14 : Nat → Int32 → Int32 → XH → XR} (hk14 : XTo cX9_keep 3 RX9 1 2 43 14 [0, 1, 2] (wM_keep_14 k14)) : XTo cX9_keep 3 RX9 1 2 43 14 [0, 1, 2] (wM_keep_14 (qM_keep_14_b k14)) := by
  refine XTo.run (B := BM_keep) (cut := xfind [(14, ([0, 1, 2], wM_keep_14 (k14))), (45, ([0, 1], wM_keep_45 (qM_keep_45)))]) kM_keep (xcuts_ok (List.forall_mem_cons.mpr ⟨hk14, List.forall_mem_cons.mpr ⟨tM_keep_45, fun _ h => absurd h List.not_mem_nil⟩⟩)) 38 (fun vs st h r hr => ?_)
  unfold wM_keep_14 at hr
  split at hr
  · exact (eM_keep_14_b k14 _ _ _ _).symm.trans hr
  · cases hr
theorem tM_keep_14 : ∀ n : Nat, XTo cX9_keep 3 RX9 1 2 43 14 [0, 1, 2] (wM_keep_14 (qM_keep_14 n)) := by
  intro n
  induction n with
  | zero =>
    refine XTo.none fun vs st h => ?_
    unfold wM_keep_14
    split <;> rfl
  | succ n ih => exact tM_keep_14_b  ih
set_option maxRecDepth 100000 in
theorem eM_keep (a0 : Nat) (x1 : Int32) (h : XH) : qM_keep a0 x1 h = xrun BM_keep (xfind [(14, ([0, 1, 2], wM_keep_14 (qM_keep_14 LF)))]) 38 0 (List.zip [0, 1] [.ref a0, .int x1]) [] h := rfl
theorem tM_keep : XTo cX9_keep 3 RX9 1 2 43 0 [0, 1] (wM_keep (qM_keep)) := by
  refine XTo.run (B := BM_keep) (cut := xfind [(14, ([0, 1, 2], wM_keep_14 (qM_keep_14 LF)))]) kM_keep (xcuts_ok (List.forall_mem_cons.mpr ⟨tM_keep_14 LF, fun _ h => absurd h List.not_mem_nil⟩)) 38 (fun vs st h r hr => ?_)
  unfold wM_keep at hr
  split at hr
  · exact (eM_keep _ _ _).symm.trans hr
  · cases hr
def FM_keep : List Value → XH → XR := fun vs h => match vs with
  | [.ref a0, .int x1] => qM_keep a0 x1 h
  | _ => none
theorem SM_keep : XS yX9_keep cX9_keep 3 (some .int) (xrm 2 43) FM_keep := by
  refine XS.of (own := RX9) (by decide) rfl (rk := 1) rfl (tM_keep) (fun vs h r hr => ?_)
  unfold FM_keep at hr
  split at hr
  · exact ⟨rfl, Nat.le_of_ble_eq_true rfl, hr⟩
  · cases hr
