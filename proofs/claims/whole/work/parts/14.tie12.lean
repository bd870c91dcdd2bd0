-- LineDiagramModel.setSize(II)I
def rM_setSize : List (Nat × XRow) := [(0, (.aload_n 0, 1, 0, .null, [])),
  (1, (.iload_n 1, 2, 1, .null, [])),
  (2, (.invokevirtual 103, 5, 103, .null, [])),
  (5, (.ifCond .eq 25, 8, 30, .null, [])),
  (8, (.iload_n 2, 9, 2, .null, [])),
  (9, (.i2l, 10, 0, .null, [])),
  (10, (.lconst 1, 11, 0, .long (1 : Int64), [])),
  (11, (.ldc2_w 370, 14, 370, .long (10 : Int64), [])),
  (14, (.invokestatic 96, 17, 96, .null, [])),
  (17, (.ifCond .eq 13, 20, 30, .null, [])),
  (20, (.aload_n 0, 21, 0, .null, [])),
  (21, (.iload_n 1, 22, 1, .null, [])),
  (22, (.iconst 0, 23, 0, .int (0 : Int32), [])),
  (23, (.iload_n 2, 24, 2, .null, [])),
  (24, (.invokevirtual 366, 27, 366, .null, [])),
  (27, (.goto 4, 30, 31, .null, [])),
  (30, (.iconst (-1), 31, 0, .int (-1 : Int32), [])),
  (31, (.ireturn, 32, 0, .null, []))]
def mM_setSize : List (Nat × XM) := [(96, (3, 1, none, FM_in)), (103, (2, 1, some 9, FM_isLine)), (366, (4, 1, some 9, FM_becomes))]
abbrev BM_setSize : XB := (rM_setSize, XFT_M, mM_setSize, 1, XST_M)
set_option maxRecDepth 100000 in
theorem kM_setSize : XOK BM_setSize cX9_setSize 3 RX9 8 185 := xok_of (cps := []) (K := XKT_M) (by decide +kernel) XKT_M_ok (fun _ h => absurd h List.not_mem_nil) XFT_M_ok (List.forall_mem_cons.mpr ⟨⟨_, _, _, _, _, _, SM_in, Nat.le_of_ble_eq_true rfl, Nat.le_of_ble_eq_true rfl, cdM_in, lkM_96, imM_in, inM_in, pmM_in⟩, List.forall_mem_cons.mpr ⟨⟨_, _, _, _, _, _, _, SM_isLine, rfl, rfl, Nat.le_of_ble_eq_true rfl, Nat.le_of_ble_eq_true rfl, cdM_isLine, lkM_103, imM_isLine, slM_isLine, inM_isLine, pmM_isLine⟩, List.forall_mem_cons.mpr ⟨⟨_, _, _, _, _, _, _, SM_becomes, rfl, rfl, Nat.le_of_ble_eq_true rfl, Nat.le_of_ble_eq_true rfl, cdM_becomes, lkM_366, imM_becomes, slM_becomes, inM_becomes, pmM_becomes⟩, fun _ h => absurd h List.not_mem_nil⟩⟩⟩) XST_M_ok
def wM_setSize (f : Nat → Int32 → Int32 → XH → XR) : List Value → List Value → XH → XR := fun vs st h => match vs, st with
  | [.ref a0, .int x1, .int x2], [] => f a0 x1 x2 h
  | _, _ => none
set_option maxRecDepth 100000 in
theorem eM_setSize (a0 : Nat) (x1 : Int32) (x2 : Int32) (h : XH) : qM_setSize a0 x1 x2 h = xrun BM_setSize (xfind []) 21 0 (List.zip [0, 1, 2] [.ref a0, .int x1, .int x2]) [] h := rfl
theorem tM_setSize : XTo cX9_setSize 3 RX9 1 8 185 0 [0, 1, 2] (wM_setSize (qM_setSize)) := by
  refine XTo.run (B := BM_setSize) (cut := xfind []) kM_setSize (xcuts_ok (fun _ h => absurd h List.not_mem_nil)) 21 (fun vs st h r hr => ?_)
  unfold wM_setSize at hr
  split at hr
  · exact (eM_setSize _ _ _ _).symm.trans hr
  · cases hr
def FM_setSize : List Value → XH → XR := fun vs h => match vs with
  | [.ref a0, .int x1, .int x2] => qM_setSize a0 x1 x2 h
  | _ => none
theorem SM_setSize : XS yX9_setSize cX9_setSize 3 (some .int) (xrm 8 185) FM_setSize := by
  refine XS.of (own := RX9) (by decide) rfl (rk := 1) rfl (tM_setSize) (fun vs h r hr => ?_)
  unfold FM_setSize at hr
  split at hr
  · exact ⟨rfl, Nat.le_of_ble_eq_true rfl, hr⟩
  · cases hr
-- LineDiagram.isStation(II)Z
def rD_isStation : List (Nat × XRow) := [(0, (.aload_n 0, 1, 0, .null, [])),
  (1, (.iload_n 1, 2, 1, .null, [])),
  (2, (.invokevirtual 115, 5, 115, .null, [])),
  (5, (.ifCond .eq 27, 8, 32, .null, [])),
  (8, (.iload_n 2, 9, 2, .null, [])),
  (9, (.ifCond .lt 23, 12, 32, .null, [])),
  (12, (.iload_n 2, 13, 2, .null, [])),
  (13, (.aload_n 0, 14, 0, .null, [])),
  (14, (.getfield 29, 17, 29, .null, [])),
  (17, (.getfield 123, 20, 123, .null, [])),
  (20, (.iload_n 1, 21, 1, .null, [])),
  (21, (.aaload, 22, 0, .null, [])),
  (22, (.getfield 145, 25, 145, .null, [])),
  (25, (.if_icmp .ge 7, 28, 32, .null, [])),
  (28, (.iconst 1, 29, 0, .int (1 : Int32), [])),
  (29, (.goto 4, 32, 33, .null, [])),
  (32, (.iconst 0, 33, 0, .int (0 : Int32), [])),
  (33, (.ireturn, 34, 0, .null, []))]
def mD_isStation : List (Nat × XM) := [(115, (2, 1, some 8, FD_isLine))]
abbrev BD_isStation : XB := (rD_isStation, XFT_D, mD_isStation, 6, XST_D)
set_option maxRecDepth 100000 in
theorem kD_isStation : XOK BD_isStation cX8_isStation 3 RX8 1 21 := xok_of (cps := []) (K := XKT_D) (by decide +kernel) XKT_D_ok (fun _ h => absurd h List.not_mem_nil) XFT_D_ok (List.forall_mem_cons.mpr ⟨⟨_, _, _, _, _, _, _, SD_isLine, rfl, rfl, Nat.le_of_ble_eq_true rfl, Nat.le_of_ble_eq_true rfl, cdD_isLine, lkD_115, imD_isLine, slD_isLine, inD_isLine, pmD_isLine⟩, fun _ h => absurd h List.not_mem_nil⟩) XST_D_ok
def wD_isStation (f : Nat → Int32 → Int32 → XH → XR) : List Value → List Value → XH → XR := fun vs st h => match vs, st with
  | [.ref a0, .int x1, .int x2], [] => f a0 x1 x2 h
  | _, _ => none
set_option maxRecDepth 100000 in
theorem eD_isStation (a0 : Nat) (x1 : Int32) (x2 : Int32) (h : XH) : qD_isStation a0 x1 x2 h = xrun BD_isStation (xfind []) 21 0 (List.zip [0, 1, 2] [.ref a0, .int x1, .int x2]) [] h := rfl
theorem tD_isStation : XTo cX8_isStation 3 RX8 6 1 21 0 [0, 1, 2] (wD_isStation (qD_isStation)) := by
  refine XTo.run (B := BD_isStation) (cut := xfind []) kD_isStation (xcuts_ok (fun _ h => absurd h List.not_mem_nil)) 21 (fun vs st h r hr => ?_)
  unfold wD_isStation at hr
  split at hr
  · exact (eD_isStation _ _ _ _).symm.trans hr
  · cases hr
def FD_isStation : List Value → XH → XR := fun vs h => match vs with
  | [.ref a0, .int x1, .int x2] => qD_isStation a0 x1 x2 h
  | _ => none
theorem SD_isStation : XS yX8_isStation cX8_isStation 3 (some .boolean) (xrm 1 21) FD_isStation := by
  refine XS.of (own := RX8) (by decide) rfl (rk := 6) rfl (tD_isStation) (fun vs h r hr => ?_)
  unfold FD_isStation at hr
  split at hr
  · exact ⟨rfl, Nat.le_of_ble_eq_true rfl, hr⟩
  · cases hr
-- LineDiagram.isPosition(I)Z
def rD_isPosition : List (Nat × XRow) := [(0, (.iload_n 0, 1, 0, .null, [])),
  (1, (.ifCond .lt 13, 4, 14, .null, [])),
  (4, (.iload_n 0, 5, 0, .null, [])),
  (5, (.bipush 8, 7, 0, .int (8 : Int32), [])),
  (7, (.if_icmp .ge 7, 10, 14, .null, [])),
  (10, (.iconst 1, 11, 0, .int (1 : Int32), [])),
  (11, (.goto 4, 14, 15, .null, [])),
  (14, (.iconst 0, 15, 0, .int (0 : Int32), [])),
  (15, (.ireturn, 16, 0, .null, []))]
def mD_isPosition : List (Nat × XM) := []
abbrev BD_isPosition : XB := (rD_isPosition, XFT_D, mD_isPosition, 6, XST_D)
set_option maxRecDepth 100000 in
theorem kD_isPosition : XOK BD_isPosition cX8_isPosition 1 RX8 0 0 := xok_of (cps := []) (K := XKT_D) (by decide +kernel) XKT_D_ok (fun _ h => absurd h List.not_mem_nil) XFT_D_ok (fun _ h => absurd h List.not_mem_nil) XST_D_ok
def wD_isPosition (f : Int32 → XH → XR) : List Value → List Value → XH → XR := fun vs st h => match vs, st with
  | [.int x0], [] => f x0 h
  | _, _ => none
set_option maxRecDepth 100000 in
theorem eD_isPosition (x0 : Int32) (h : XH) : qD_isPosition x0 h = xrun BD_isPosition (xfind []) 12 0 (List.zip [0] [.int x0]) [] h := rfl
theorem tD_isPosition : XTo cX8_isPosition 1 RX8 6 0 0 0 [0] (wD_isPosition (qD_isPosition)) := by
  refine XTo.run (B := BD_isPosition) (cut := xfind []) kD_isPosition (xcuts_ok (fun _ h => absurd h List.not_mem_nil)) 12 (fun vs st h r hr => ?_)
  unfold wD_isPosition at hr
  split at hr
  · exact (eD_isPosition _ _).symm.trans hr
  · cases hr
def FD_isPosition : List Value → XH → XR := fun vs h => match vs with
  | [.int x0] => qD_isPosition x0 h
  | _ => none
theorem SD_isPosition : XS yX8_isPosition cX8_isPosition 1 (some .boolean) (xrm 0 0) FD_isPosition := by
  refine XS.of (own := RX8) (by decide) rfl (rk := 6) rfl (tD_isPosition) (fun vs h r hr => ?_)
  unfold FD_isPosition at hr
  split at hr
  · exact ⟨rfl, Nat.le_of_ble_eq_true rfl, hr⟩
  · cases hr
-- LineDiagram$Board.stationCell(II)I
def rB_stationCell : List (Nat × XRow) := [(0, (.iload_n 1, 1, 1, .null, [])),
  (1, (.bipush 20, 3, 0, .int (20 : Int32), [])),
  (3, (.imul, 4, 0, .null, [])),
  (4, (.iload_n 2, 5, 2, .null, [])),
  (5, (.iadd, 6, 0, .null, [])),
  (6, (.istore_n 3, 7, 3, .null, [])),
  (7, (.iload_n 3, 8, 3, .null, [])),
  (8, (.ifCond .lt 12, 11, 20, .null, [])),
  (11, (.iload_n 3, 12, 3, .null, [])),
  (12, (.aload_n 0, 13, 0, .null, [])),
  (13, (.getfield 30, 16, 30, .null, [])),
  (16, (.arraylength, 17, 0, .null, [])),
  (17, (.if_icmp .lt 7, 20, 24, .null, [])),
  (20, (.iconst 0, 21, 0, .int (0 : Int32), [])),
  (21, (.goto 9, 24, 30, .null, [])),
  (24, (.aload_n 0, 25, 0, .null, [])),
  (25, (.getfield 30, 28, 30, .null, [])),
  (28, (.iload_n 3, 29, 3, .null, [])),
  (29, (.iaload, 30, 0, .null, [])),
  (30, (.ireturn, 31, 0, .null, []))]
def mB_stationCell : List (Nat × XM) := []
abbrev BB_stationCell : XB := (rB_stationCell, XFT_B, mB_stationCell, 1, XST_B)
set_option maxRecDepth 100000 in
theorem kB_stationCell : XOK BB_stationCell cX0_stationCell 4 RX0 0 0 := xok_of (cps := []) (K := XKT_B) (by decide +kernel) XKT_B_ok (fun _ h => absurd h List.not_mem_nil) XFT_B_ok (fun _ h => absurd h List.not_mem_nil) XST_B_ok
def wB_stationCell (f : Nat → Int32 → Int32 → XH → XR) : List Value → List Value → XH → XR := fun vs st h => match vs, st with
  | [.ref a0, .int x1, .int x2], [] => f a0 x1 x2 h
  | _, _ => none
set_option maxRecDepth 100000 in
theorem eB_stationCell (a0 : Nat) (x1 : Int32) (x2 : Int32) (h : XH) : qB_stationCell a0 x1 x2 h = xrun BB_stationCell (xfind []) 23 0 (List.zip [0, 1, 2] [.ref a0, .int x1, .int x2]) [] h := rfl
theorem tB_stationCell : XTo cX0_stationCell 4 RX0 1 0 0 0 [0, 1, 2] (wB_stationCell (qB_stationCell)) := by
  refine XTo.run (B := BB_stationCell) (cut := xfind []) kB_stationCell (xcuts_ok (fun _ h => absurd h List.not_mem_nil)) 23 (fun vs st h r hr => ?_)
  unfold wB_stationCell at hr
  split at hr
  · exact (eB_stationCell _ _ _ _).symm.trans hr
  · cases hr
def FB_stationCell : List Value → XH → XR := fun vs h => match vs with
  | [.ref a0, .int x1, .int x2] => qB_stationCell a0 x1 x2 h
  | _ => none
theorem SB_stationCell : XS yX0_stationCell cX0_stationCell 4 (some .int) (xrm 0 0) FB_stationCell := by
  refine XS.of (own := RX0) (by decide) rfl (rk := 1) rfl (tB_stationCell) (fun vs h r hr => ?_)
  unfold FB_stationCell at hr
  split at hr
  · exact ⟨rfl, Nat.le_of_ble_eq_true rfl, hr⟩
  · cases hr
-- LineDiagram$Labels.rankOf(I)I
def rLb_rankOf : List (Nat × XRow) := [(0, (.iconst 0, 1, 0, .int (0 : Int32), [])),
  (1, (.istore_n 2, 2, 2, .null, [])),
  (2, (.iload_n 2, 3, 2, .null, [])),
  (3, (.aload_n 0, 4, 0, .null, [])),
  (4, (.getfield 18, 7, 18, .null, [])),
  (7, (.if_icmp .ge 19, 10, 26, .null, [])),
  (10, (.aload_n 0, 11, 0, .null, [])),
  (11, (.getfield 9, 14, 9, .null, [])),
  (14, (.iload_n 2, 15, 2, .null, [])),
  (15, (.iaload, 16, 0, .null, [])),
  (16, (.iload_n 1, 17, 1, .null, [])),
  (17, (.if_icmp .ge 9, 20, 26, .null, [])),
  (20, (.iinc 2 1, 23, 2, .int (1 : Int32), [])),
  (23, (.goto (-21), 26, 2, .null, [])),
  (26, (.iload_n 2, 27, 2, .null, [])),
  (27, (.ireturn, 28, 0, .null, []))]
def mLb_rankOf : List (Nat × XM) := []
abbrev BLb_rankOf : XB := (rLb_rankOf, XFT_Lb, mLb_rankOf, 1, XST_Lb)
set_option maxRecDepth 100000 in
theorem kLb_rankOf : XOK BLb_rankOf cX2_rankOf 3 RX2 0 0 := xok_of (cps := []) (K := XKT_Lb) (by decide +kernel) XKT_Lb_ok (fun _ h => absurd h List.not_mem_nil) XFT_Lb_ok (fun _ h => absurd h List.not_mem_nil) XST_Lb_ok
def wLb_rankOf_2 (f : Nat → Int32 → Int32 → XH → XR) : List Value → List Value → XH → XR := fun vs st h => match vs, st with
  | [.ref a0, .int x1, .int x2], [] => f a0 x1 x2 h
  | _, _ => none
def wLb_rankOf (f : Nat → Int32 → XH → XR) : List Value → List Value → XH → XR := fun vs st h => match vs, st with
  | [.ref a0, .int x1], [] => f a0 x1 h
  | _, _ => none
set_option maxRecDepth 100000 in
theorem eLb_rankOf_2_b (k2 : Nat → Int32 → Int32 → XH → XR) (a0 : Nat) (x1 : Int32) (x2 : Int32) (h : XH) : qLb_rankOf_2_b k2 a0 x1 x2 h = xrun BLb_rankOf (xfind [(2, ([0, 1, 2], wLb_rankOf_2 (k2)))]) 19 2 (List.zip [0, 1, 2] [.ref a0, .int x1, .int x2]) [] h := rfl
theorem tLb_rankOf_2_b {k2 : Nat → Int32 → Int32 → XH → XR} (hk2 : XTo cX2_rankOf 3 RX2 1 0 0 2 [0, 1, 2] (wLb_rankOf_2 k2)) : XTo cX2_rankOf 3 RX2 1 0 0 2 [0, 1, 2] (wLb_rankOf_2 (qLb_rankOf_2_b k2)) := by
  refine XTo.run (B := BLb_rankOf) (cut := xfind [(2, ([0, 1, 2], wLb_rankOf_2 (k2)))]) kLb_rankOf (xcuts_ok (List.forall_mem_cons.mpr ⟨hk2, fun _ h => absurd h List.not_mem_nil⟩)) 19 (fun vs st h r hr => ?_)
  unfold wLb_rankOf_2 at hr
  split at hr
  · exact (eLb_rankOf_2_b k2 _ _ _ _).symm.trans hr
  · cases hr
theorem tLb_rankOf_2 : ∀ n : Nat, XTo cX2_rankOf 3 RX2 1 0 0 2 [0, 1, 2] (wLb_rankOf_2 (qLb_rankOf_2 n)) := by
  intro n
  induction n with
  | zero =>
    refine XTo.none fun vs st h => ?_
    unfold wLb_rankOf_2
    split <;> rfl
  | succ n ih => exact tLb_rankOf_2_b  ih
set_option maxRecDepth 100000 in
theorem eLb_rankOf (a0 : Nat) (x1 : Int32) (h : XH) : qLb_rankOf a0 x1 h = xrun BLb_rankOf (xfind [(2, ([0, 1, 2], wLb_rankOf_2 (qLb_rankOf_2 LF)))]) 19 0 (List.zip [0, 1] [.ref a0, .int x1]) [] h := rfl
theorem tLb_rankOf : XTo cX2_rankOf 3 RX2 1 0 0 0 [0, 1] (wLb_rankOf (qLb_rankOf)) := by
  refine XTo.run (B := BLb_rankOf) (cut := xfind [(2, ([0, 1, 2], wLb_rankOf_2 (qLb_rankOf_2 LF)))]) kLb_rankOf (xcuts_ok (List.forall_mem_cons.mpr ⟨tLb_rankOf_2 LF, fun _ h => absurd h List.not_mem_nil⟩)) 19 (fun vs st h r hr => ?_)
  unfold wLb_rankOf at hr
  split at hr
  · exact (eLb_rankOf _ _ _).symm.trans hr
  · cases hr
def FLb_rankOf : List Value → XH → XR := fun vs h => match vs with
  | [.ref a0, .int x1] => qLb_rankOf a0 x1 h
  | _ => none
theorem SLb_rankOf : XS yX2_rankOf cX2_rankOf 3 (some .int) (xrm 0 0) FLb_rankOf := by
  refine XS.of (own := RX2) (by decide) rfl (rk := 1) rfl (tLb_rankOf) (fun vs h r hr => ?_)
  unfold FLb_rankOf at hr
  split at hr
  · exact ⟨rfl, Nat.le_of_ble_eq_true rfl, hr⟩
  · cases hr
-- LineDiagram$Labels.positionOf(I)I
def rLb_positionOf : List (Nat × XRow) := [(0, (.aload_n 0, 1, 0, .null, [])),
  (1, (.iload_n 1, 2, 1, .null, [])),
  (2, (.invokevirtual 28, 5, 28, .null, [])),
  (5, (.istore_n 2, 6, 2, .null, [])),
  (6, (.iload_n 2, 7, 2, .null, [])),
  (7, (.aload_n 0, 8, 0, .null, [])),
  (8, (.getfield 18, 11, 18, .null, [])),
  (11, (.if_icmp .ge 22, 14, 33, .null, [])),
  (14, (.aload_n 0, 15, 0, .null, [])),
  (15, (.getfield 9, 18, 9, .null, [])),
  (18, (.iload_n 2, 19, 2, .null, [])),
  (19, (.iaload, 20, 0, .null, [])),
  (20, (.iload_n 1, 21, 1, .null, [])),
  (21, (.if_icmp .ne 12, 24, 33, .null, [])),
  (24, (.aload_n 0, 25, 0, .null, [])),
  (25, (.getfield 15, 28, 15, .null, [])),
  (28, (.iload_n 2, 29, 2, .null, [])),
  (29, (.iaload, 30, 0, .null, [])),
  (30, (.goto 5, 33, 35, .null, [])),
  (33, (.bipush (-2), 35, 0, .int (-2 : Int32), [])),
  (35, (.ireturn, 36, 0, .null, []))]
def mLb_positionOf : List (Nat × XM) := [(28, (2, 1, some 2, FLb_rankOf))]
abbrev BLb_positionOf : XB := (rLb_positionOf, XFT_Lb, mLb_positionOf, 1, XST_Lb)
set_option maxRecDepth 100000 in
theorem kLb_positionOf : XOK BLb_positionOf cX2_positionOf 3 RX2 1 22 := xok_of (cps := []) (K := XKT_Lb) (by decide +kernel) XKT_Lb_ok (fun _ h => absurd h List.not_mem_nil) XFT_Lb_ok (List.forall_mem_cons.mpr ⟨⟨_, _, _, _, _, _, _, SLb_rankOf, rfl, rfl, Nat.le_of_ble_eq_true rfl, Nat.le_of_ble_eq_true rfl, cdLb_rankOf, lkLb_28, imLb_rankOf, slLb_rankOf, inLb_rankOf, pmLb_rankOf⟩, fun _ h => absurd h List.not_mem_nil⟩) XST_Lb_ok
def wLb_positionOf (f : Nat → Int32 → XH → XR) : List Value → List Value → XH → XR := fun vs st h => match vs, st with
  | [.ref a0, .int x1], [] => f a0 x1 h
  | _, _ => none
set_option maxRecDepth 100000 in
theorem eLb_positionOf (a0 : Nat) (x1 : Int32) (h : XH) : qLb_positionOf a0 x1 h = xrun BLb_positionOf (xfind []) 24 0 (List.zip [0, 1] [.ref a0, .int x1]) [] h := rfl
theorem tLb_positionOf : XTo cX2_positionOf 3 RX2 1 1 22 0 [0, 1] (wLb_positionOf (qLb_positionOf)) := by
  refine XTo.run (B := BLb_positionOf) (cut := xfind []) kLb_positionOf (xcuts_ok (fun _ h => absurd h List.not_mem_nil)) 24 (fun vs st h r hr => ?_)
  unfold wLb_positionOf at hr
  split at hr
  · exact (eLb_positionOf _ _ _).symm.trans hr
  · cases hr
def FLb_positionOf : List Value → XH → XR := fun vs h => match vs with
  | [.ref a0, .int x1] => qLb_positionOf a0 x1 h
  | _ => none
theorem SLb_positionOf : XS yX2_positionOf cX2_positionOf 3 (some .int) (xrm 1 22) FLb_positionOf := by
  refine XS.of (own := RX2) (by decide) rfl (rk := 1) rfl (tLb_positionOf) (fun vs h r hr => ?_)
  unfold FLb_positionOf at hr
  split at hr
  · exact ⟨rfl, Nat.le_of_ble_eq_true rfl, hr⟩
  · cases hr
-- LineDiagram$Labels.drop(I)V
def rLb_drop : List (Nat × XRow) := [(0, (.aload_n 0, 1, 0, .null, [])),
  (1, (.iload_n 1, 2, 1, .null, [])),
  (2, (.invokevirtual 28, 5, 28, .null, [])),
  (5, (.istore_n 2, 6, 2, .null, [])),
  (6, (.iload_n 2, 7, 2, .null, [])),
  (7, (.aload_n 0, 8, 0, .null, [])),
  (8, (.getfield 18, 11, 18, .null, [])),
  (11, (.if_icmp .ge 13, 14, 24, .null, [])),
  (14, (.aload_n 0, 15, 0, .null, [])),
  (15, (.getfield 9, 18, 9, .null, [])),
  (18, (.iload_n 2, 19, 2, .null, [])),
  (19, (.iaload, 20, 0, .null, [])),
  (20, (.iload_n 1, 21, 1, .null, [])),
  (21, (.if_icmp .eq 4, 24, 25, .null, [])),
  (24, (.return_, 25, 0, .null, [])),
  (25, (.aload_n 0, 26, 0, .null, [])),
  (26, (.dup, 27, 0, .null, [])),
  (27, (.getfield 18, 30, 18, .null, [])),
  (30, (.iconst 1, 31, 0, .int (1 : Int32), [])),
  (31, (.isub, 32, 0, .null, [])),
  (32, (.putfield 18, 35, 18, .null, [])),
  (35, (.iload_n 2, 36, 2, .null, [])),
  (36, (.istore_n 3, 37, 3, .null, [])),
  (37, (.iload_n 3, 38, 3, .null, [])),
  (38, (.aload_n 0, 39, 0, .null, [])),
  (39, (.getfield 18, 42, 18, .null, [])),
  (42, (.if_icmp .ge 37, 45, 79, .null, [])),
  (45, (.aload_n 0, 46, 0, .null, [])),
  (46, (.getfield 9, 49, 9, .null, [])),
  (49, (.iload_n 3, 50, 3, .null, [])),
  (50, (.aload_n 0, 51, 0, .null, [])),
  (51, (.getfield 9, 54, 9, .null, [])),
  (54, (.iload_n 3, 55, 3, .null, [])),
  (55, (.iconst 1, 56, 0, .int (1 : Int32), [])),
  (56, (.iadd, 57, 0, .null, [])),
  (57, (.iaload, 58, 0, .null, [])),
  (58, (.iastore, 59, 0, .null, [])),
  (59, (.aload_n 0, 60, 0, .null, [])),
  (60, (.getfield 15, 63, 15, .null, [])),
  (63, (.iload_n 3, 64, 3, .null, [])),
  (64, (.aload_n 0, 65, 0, .null, [])),
  (65, (.getfield 15, 68, 15, .null, [])),
  (68, (.iload_n 3, 69, 3, .null, [])),
  (69, (.iconst 1, 70, 0, .int (1 : Int32), [])),
  (70, (.iadd, 71, 0, .null, [])),
  (71, (.iaload, 72, 0, .null, [])),
  (72, (.iastore, 73, 0, .null, [])),
  (73, (.iinc 3 1, 76, 3, .int (1 : Int32), [])),
  (76, (.goto (-39), 79, 37, .null, [])),
  (79, (.return_, 80, 0, .null, []))]
def mLb_drop : List (Nat × XM) := [(28, (2, 1, some 2, FLb_rankOf))]
abbrev BLb_drop : XB := (rLb_drop, XFT_Lb, mLb_drop, 0, XST_Lb)
set_option maxRecDepth 100000 in
theorem kLb_drop : XOK BLb_drop cX2_drop 4 RX2 1 22 := xok_of (cps := []) (K := XKT_Lb) (by decide +kernel) XKT_Lb_ok (fun _ h => absurd h List.not_mem_nil) XFT_Lb_ok (List.forall_mem_cons.mpr ⟨⟨_, _, _, _, _, _, _, SLb_rankOf, rfl, rfl, Nat.le_of_ble_eq_true rfl, Nat.le_of_ble_eq_true rfl, cdLb_rankOf, lkLb_28, imLb_rankOf, slLb_rankOf, inLb_rankOf, pmLb_rankOf⟩, fun _ h => absurd h List.not_mem_nil⟩) XST_Lb_ok
def wLb_drop_37 (f : Nat → Int32 → XH → XR) : List Value → List Value → XH → XR := fun vs st h => match vs, st with
  | [.ref a0, .int x3], [] => f a0 x3 h
  | _, _ => none
def wLb_drop (f : Nat → Int32 → XH → XR) : List Value → List Value → XH → XR := fun vs st h => match vs, st with
  | [.ref a0, .int x1], [] => f a0 x1 h
  | _, _ => none
set_option maxRecDepth 100000 in
theorem eLb_drop_37_b (k37 : Nat → Int32 → XH → XR) (a0 : Nat) (x3 : Int32) (h : XH) : qLb_drop_37_b k37 a0 x3 h = xrun BLb_drop (xfind [(37, ([0, 3], wLb_drop_37 (k37)))]) 53 37 (List.zip [0, 3] [.ref a0, .int x3]) [] h := rfl
theorem tLb_drop_37_b {k37 : Nat → Int32 → XH → XR} (hk37 : XTo cX2_drop 4 RX2 0 1 22 37 [0, 3] (wLb_drop_37 k37)) : XTo cX2_drop 4 RX2 0 1 22 37 [0, 3] (wLb_drop_37 (qLb_drop_37_b k37)) := by
  refine XTo.run (B := BLb_drop) (cut := xfind [(37, ([0, 3], wLb_drop_37 (k37)))]) kLb_drop (xcuts_ok (List.forall_mem_cons.mpr ⟨hk37, fun _ h => absurd h List.not_mem_nil⟩)) 53 (fun vs st h r hr => ?_)
  unfold wLb_drop_37 at hr
  split at hr
  · exact (eLb_drop_37_b k37 _ _ _).symm.trans hr
  · cases hr
theorem tLb_drop_37 : ∀ n : Nat, XTo cX2_drop 4 RX2 0 1 22 37 [0, 3] (wLb_drop_37 (qLb_drop_37 n)) := by
  intro n
  induction n with
  | zero =>
    refine XTo.none fun vs st h => ?_
    unfold wLb_drop_37
    split <;> rfl
  | succ n ih => exact tLb_drop_37_b  ih
set_option maxRecDepth 100000 in
theorem eLb_drop (a0 : Nat) (x1 : Int32) (h : XH) : qLb_drop a0 x1 h = xrun BLb_drop (xfind [(37, ([0, 3], wLb_drop_37 (qLb_drop_37 LF)))]) 53 0 (List.zip [0, 1] [.ref a0, .int x1]) [] h := rfl
theorem tLb_drop : XTo cX2_drop 4 RX2 0 1 22 0 [0, 1] (wLb_drop (qLb_drop)) := by
  refine XTo.run (B := BLb_drop) (cut := xfind [(37, ([0, 3], wLb_drop_37 (qLb_drop_37 LF)))]) kLb_drop (xcuts_ok (List.forall_mem_cons.mpr ⟨tLb_drop_37 LF, fun _ h => absurd h List.not_mem_nil⟩)) 53 (fun vs st h r hr => ?_)
  unfold wLb_drop at hr
  split at hr
  · exact (eLb_drop _ _ _).symm.trans hr
  · cases hr
def FLb_drop : List Value → XH → XR := fun vs h => match vs with
  | [.ref a0, .int x1] => qLb_drop a0 x1 h
  | _ => none
theorem SLb_drop : XS yX2_drop cX2_drop 4 none (xrm 1 22) FLb_drop := by
  refine XS.of (own := RX2) (by decide) rfl (rk := 0) rfl (tLb_drop) (fun vs h r hr => ?_)
  unfold FLb_drop at hr
  split at hr
  · exact ⟨rfl, Nat.le_of_ble_eq_true rfl, hr⟩
  · cases hr
-- LineDiagram.takeLabel(I)V
def rD_takeLabel : List (Nat × XRow) := [(0, (.aload_n 0, 1, 0, .null, [])),
  (1, (.getfield 29, 4, 29, .null, [])),
  (4, (.getfield 161, 7, 161, .null, [])),
  (7, (.iload_n 1, 8, 1, .null, [])),
  (8, (.invokevirtual 165, 11, 165, .null, [])),
  (11, (.istore_n 2, 12, 2, .null, [])),
  (12, (.iload_n 2, 13, 2, .null, [])),
  (13, (.ifCond .lt 24, 16, 37, .null, [])),
  (16, (.aload_n 0, 17, 0, .null, [])),
  (17, (.getfield 29, 20, 29, .null, [])),
  (20, (.getfield 161, 23, 161, .null, [])),
  (23, (.iload_n 1, 24, 1, .null, [])),
  (24, (.invokevirtual 365, 27, 365, .null, [])),
  (27, (.aload_n 0, 28, 0, .null, [])),
  (28, (.getfield 54, 31, 54, .null, [])),
  (31, (.iload_n 1, 32, 1, .null, [])),
  (32, (.iload_n 2, 33, 2, .null, [])),
  (33, (.iconst 0, 34, 0, .int (0 : Int32), [])),
  (34, (.invokevirtual 362, 37, 362, .null, [])),
  (37, (.return_, 38, 0, .null, []))]
def mD_takeLabel : List (Nat × XM) := [(165, (2, 1, some 2, FLb_positionOf)), (362, (4, 0, some 0, FB_paint)), (365, (2, 0, some 2, FLb_drop))]
abbrev BD_takeLabel : XB := (rD_takeLabel, XFT_D, mD_takeLabel, 0, XST_D)
set_option maxRecDepth 100000 in
theorem kD_takeLabel : XOK BD_takeLabel cX8_takeLabel 3 RX8 3 71 := xok_of (cps := []) (K := XKT_D) (by decide +kernel) XKT_D_ok (fun _ h => absurd h List.not_mem_nil) XFT_D_ok (List.forall_mem_cons.mpr ⟨⟨_, _, _, _, _, _, _, SLb_positionOf, rfl, rfl, Nat.le_of_ble_eq_true rfl, Nat.le_of_ble_eq_true rfl, cdLb_positionOf, lkD_165, imLb_positionOf, slLb_positionOf, inLb_positionOf, pmLb_positionOf⟩, List.forall_mem_cons.mpr ⟨⟨_, _, _, _, _, _, _, SB_paint, rfl, rfl, Nat.le_of_ble_eq_true rfl, Nat.le_of_ble_eq_true rfl, cdB_paint, lkD_362, imB_paint, slB_paint, inB_paint, pmB_paint⟩, List.forall_mem_cons.mpr ⟨⟨_, _, _, _, _, _, _, SLb_drop, rfl, rfl, Nat.le_of_ble_eq_true rfl, Nat.le_of_ble_eq_true rfl, cdLb_drop, lkD_365, imLb_drop, slLb_drop, inLb_drop, pmLb_drop⟩, fun _ h => absurd h List.not_mem_nil⟩⟩⟩) XST_D_ok
def wD_takeLabel (f : Nat → Int32 → XH → XR) : List Value → List Value → XH → XR := fun vs st h => match vs, st with
  | [.ref a0, .int x1], [] => f a0 x1 h
  | _, _ => none
set_option maxRecDepth 100000 in
theorem eD_takeLabel (a0 : Nat) (x1 : Int32) (h : XH) : qD_takeLabel a0 x1 h = xrun BD_takeLabel (xfind []) 23 0 (List.zip [0, 1] [.ref a0, .int x1]) [] h := rfl
theorem tD_takeLabel : XTo cX8_takeLabel 3 RX8 0 3 71 0 [0, 1] (wD_takeLabel (qD_takeLabel)) := by
  refine XTo.run (B := BD_takeLabel) (cut := xfind []) kD_takeLabel (xcuts_ok (fun _ h => absurd h List.not_mem_nil)) 23 (fun vs st h r hr => ?_)
  unfold wD_takeLabel at hr
  split at hr
  · exact (eD_takeLabel _ _ _).symm.trans hr
  · cases hr
def FD_takeLabel : List Value → XH → XR := fun vs h => match vs with
  | [.ref a0, .int x1] => qD_takeLabel a0 x1 h
  | _ => none
theorem SD_takeLabel : XS yX8_takeLabel cX8_takeLabel 3 none (xrm 3 71) FD_takeLabel := by
  refine XS.of (own := RX8) (by decide) rfl (rk := 0) rfl (tD_takeLabel) (fun vs h r hr => ?_)
  unfold FD_takeLabel at hr
  split at hr
  · exact ⟨rfl, Nat.le_of_ble_eq_true rfl, hr⟩
  · cases hr
-- LineDiagram$Labels.put(II)V
def rLb_put : List (Nat × XRow) := [(0, (.aload_n 0, 1, 0, .null, [])),
  (1, (.iload_n 1, 2, 1, .null, [])),
  (2, (.invokevirtual 28, 5, 28, .null, [])),
  (5, (.istore_n 3, 6, 3, .null, [])),
  (6, (.aload_n 0, 7, 0, .null, [])),
  (7, (.getfield 18, 10, 18, .null, [])),
  (10, (.sipush 160, 13, 0, .int (160 : Int32), [])),
  (13, (.if_icmp .lt 4, 16, 17, .null, [])),
  (16, (.return_, 17, 0, .null, [])),
  (17, (.aload_n 0, 18, 0, .null, [])),
  (18, (.getfield 18, 21, 18, .null, [])),
  (21, (.istore 4, 23, 4, .null, [])),
  (23, (.iload 4, 25, 4, .null, [])),
  (25, (.iload_n 3, 26, 3, .null, [])),
  (26, (.if_icmp .le 41, 29, 67, .null, [])),
  (29, (.aload_n 0, 30, 0, .null, [])),
  (30, (.getfield 9, 33, 9, .null, [])),
  (33, (.iload 4, 35, 4, .null, [])),
  (35, (.aload_n 0, 36, 0, .null, [])),
  (36, (.getfield 9, 39, 9, .null, [])),
  (39, (.iload 4, 41, 4, .null, [])),
  (41, (.iconst 1, 42, 0, .int (1 : Int32), [])),
  (42, (.isub, 43, 0, .null, [])),
  (43, (.iaload, 44, 0, .null, [])),
  (44, (.iastore, 45, 0, .null, [])),
  (45, (.aload_n 0, 46, 0, .null, [])),
  (46, (.getfield 15, 49, 15, .null, [])),
  (49, (.iload 4, 51, 4, .null, [])),
  (51, (.aload_n 0, 52, 0, .null, [])),
  (52, (.getfield 15, 55, 15, .null, [])),
  (55, (.iload 4, 57, 4, .null, [])),
  (57, (.iconst 1, 58, 0, .int (1 : Int32), [])),
  (58, (.isub, 59, 0, .null, [])),
  (59, (.iaload, 60, 0, .null, [])),
  (60, (.iastore, 61, 0, .null, [])),
  (61, (.iinc 4 (-1), 64, 4, .int (-1 : Int32), [])),
  (64, (.goto (-41), 67, 23, .null, [])),
  (67, (.aload_n 0, 68, 0, .null, [])),
  (68, (.getfield 9, 71, 9, .null, [])),
  (71, (.iload_n 3, 72, 3, .null, [])),
  (72, (.iload_n 1, 73, 1, .null, [])),
  (73, (.iastore, 74, 0, .null, [])),
  (74, (.aload_n 0, 75, 0, .null, [])),
  (75, (.getfield 15, 78, 15, .null, [])),
  (78, (.iload_n 3, 79, 3, .null, [])),
  (79, (.iload_n 2, 80, 2, .null, [])),
  (80, (.iastore, 81, 0, .null, [])),
  (81, (.aload_n 0, 82, 0, .null, [])),
  (82, (.dup, 83, 0, .null, [])),
  (83, (.getfield 18, 86, 18, .null, [])),
  (86, (.iconst 1, 87, 0, .int (1 : Int32), [])),
  (87, (.iadd, 88, 0, .null, [])),
  (88, (.putfield 18, 91, 18, .null, [])),
  (91, (.return_, 92, 0, .null, []))]
def mLb_put : List (Nat × XM) := [(28, (2, 1, some 2, FLb_rankOf))]
abbrev BLb_put : XB := (rLb_put, XFT_Lb, mLb_put, 0, XST_Lb)
set_option maxRecDepth 100000 in
theorem kLb_put : XOK BLb_put cX2_put 5 RX2 1 22 := xok_of (cps := []) (K := XKT_Lb) (by decide +kernel) XKT_Lb_ok (fun _ h => absurd h List.not_mem_nil) XFT_Lb_ok (List.forall_mem_cons.mpr ⟨⟨_, _, _, _, _, _, _, SLb_rankOf, rfl, rfl, Nat.le_of_ble_eq_true rfl, Nat.le_of_ble_eq_true rfl, cdLb_rankOf, lkLb_28, imLb_rankOf, slLb_rankOf, inLb_rankOf, pmLb_rankOf⟩, fun _ h => absurd h List.not_mem_nil⟩) XST_Lb_ok
def wLb_put_67 (f : Nat → Int32 → Int32 → Int32 → XH → XR) : List Value → List Value → XH → XR := fun vs st h => match vs, st with
  | [.ref a0, .int x1, .int x2, .int x3], [] => f a0 x1 x2 x3 h
  | _, _ => none
def wLb_put_23 (f : Nat → Int32 → Int32 → Int32 → Int32 → XH → XR) : List Value → List Value → XH → XR := fun vs st h => match vs, st with
  | [.ref a0, .int x1, .int x2, .int x3, .int x4], [] => f a0 x1 x2 x3 x4 h
  | _, _ => none
def wLb_put (f : Nat → Int32 → Int32 → XH → XR) : List Value → List Value → XH → XR := fun vs st h => match vs, st with
  | [.ref a0, .int x1, .int x2], [] => f a0 x1 x2 h
  | _, _ => none
set_option maxRecDepth 100000 in
theorem eLb_put_67 (a0 : Nat) (x1 : Int32) (x2 : Int32) (x3 : Int32) (h : XH) : qLb_put_67 a0 x1 x2 x3 h = xrun BLb_put (xfind []) 57 67 (List.zip [0, 1, 2, 3] [.ref a0, .int x1, .int x2, .int x3]) [] h := rfl
theorem tLb_put_67 : XTo cX2_put 5 RX2 0 1 22 67 [0, 1, 2, 3] (wLb_put_67 (qLb_put_67)) := by
  refine XTo.run (B := BLb_put) (cut := xfind []) kLb_put (xcuts_ok (fun _ h => absurd h List.not_mem_nil)) 57 (fun vs st h r hr => ?_)
  unfold wLb_put_67 at hr
  split at hr
  · exact (eLb_put_67 _ _ _ _ _).symm.trans hr
  · cases hr
set_option maxRecDepth 100000 in
theorem eLb_put_23_b (k23 : Nat → Int32 → Int32 → Int32 → Int32 → XH → XR) (a0 : Nat) (x1 : Int32) (x2 : Int32) (x3 : Int32) (x4 : Int32) (h : XH) : qLb_put_23_b k23 a0 x1 x2 x3 x4 h = xrun BLb_put (xfind [(23, ([0, 1, 2, 3, 4], wLb_put_23 (k23))), (67, ([0, 1, 2, 3], wLb_put_67 (qLb_put_67)))]) 57 23 (List.zip [0, 1, 2, 3, 4] [.ref a0, .int x1, .int x2, .int x3, .int x4]) [] h := rfl
theorem tLb_put_23_b {k23 : Nat → Int32 → Int32 → Int32 → Int32 → XH → XR} (hk23 : XTo cX2_put 5 RX2 0 1 22 23 [0, 1, 2, 3, 4] (wLb_put_23 k23)) : XTo cX2_put 5 RX2 0 1 22 23 [0, 1, 2, 3, 4] (wLb_put_23 (qLb_put_23_b k23)) := by
  refine XTo.run (B := BLb_put) (cut := xfind [(23, ([0, 1, 2, 3, 4], wLb_put_23 (k23))), (67, ([0, 1, 2, 3], wLb_put_67 (qLb_put_67)))]) kLb_put (xcuts_ok (List.forall_mem_cons.mpr ⟨hk23, List.forall_mem_cons.mpr ⟨tLb_put_67, fun _ h => absurd h List.not_mem_nil⟩⟩)) 57 (fun vs st h r hr => ?_)
  unfold wLb_put_23 at hr
  split at hr
  · exact (eLb_put_23_b k23 _ _ _ _ _ _).symm.trans hr
  · cases hr
theorem tLb_put_23 : ∀ n : Nat, XTo cX2_put 5 RX2 0 1 22 23 [0, 1, 2, 3, 4] (wLb_put_23 (qLb_put_23 n)) := by
  intro n
  induction n with
  | zero =>
    refine XTo.none fun vs st h => ?_
    unfold wLb_put_23
    split <;> rfl
  | succ n ih => exact tLb_put_23_b  ih
set_option maxRecDepth 100000 in
theorem eLb_put (a0 : Nat) (x1 : Int32) (x2 : Int32) (h : XH) : qLb_put a0 x1 x2 h = xrun BLb_put (xfind [(23, ([0, 1, 2, 3, 4], wLb_put_23 (qLb_put_23 LF)))]) 57 0 (List.zip [0, 1, 2] [.ref a0, .int x1, .int x2]) [] h := rfl
theorem tLb_put : XTo cX2_put 5 RX2 0 1 22 0 [0, 1, 2] (wLb_put (qLb_put)) := by
  refine XTo.run (B := BLb_put) (cut := xfind [(23, ([0, 1, 2, 3, 4], wLb_put_23 (qLb_put_23 LF)))]) kLb_put (xcuts_ok (List.forall_mem_cons.mpr ⟨tLb_put_23 LF, fun _ h => absurd h List.not_mem_nil⟩)) 57 (fun vs st h r hr => ?_)
  unfold wLb_put at hr
  split at hr
  · exact (eLb_put _ _ _ _).symm.trans hr
  · cases hr
def FLb_put : List Value → XH → XR := fun vs h => match vs with
  | [.ref a0, .int x1, .int x2] => qLb_put a0 x1 x2 h
  | _ => none
theorem SLb_put : XS yX2_put cX2_put 5 none (xrm 1 22) FLb_put := by
  refine XS.of (own := RX2) (by decide) rfl (rk := 0) rfl (tLb_put) (fun vs h r hr => ?_)
  unfold FLb_put at hr
  split at hr
  · exact ⟨rfl, Nat.le_of_ble_eq_true rfl, hr⟩
  · cases hr
-- LineDiagram.putLabel(II)V
def rD_putLabel : List (Nat × XRow) := [(0, (.aload_n 0, 1, 0, .null, [])),
  (1, (.iload_n 1, 2, 1, .null, [])),
  (2, (.invokevirtual 183, 5, 183, .null, [])),
  (5, (.aload_n 0, 6, 0, .null, [])),
  (6, (.getfield 29, 9, 29, .null, [])),
  (9, (.getfield 161, 12, 161, .null, [])),
  (12, (.iload_n 1, 13, 1, .null, [])),
  (13, (.iload_n 2, 14, 2, .null, [])),
  (14, (.invokevirtual 359, 17, 359, .null, [])),
  (17, (.aload_n 0, 18, 0, .null, [])),
  (18, (.getfield 54, 21, 54, .null, [])),
  (21, (.iload_n 1, 22, 1, .null, [])),
  (22, (.iload_n 2, 23, 2, .null, [])),
  (23, (.iload_n 1, 24, 1, .null, [])),
  (24, (.iconst 1, 25, 0, .int (1 : Int32), [])),
  (25, (.iadd, 26, 0, .null, [])),
  (26, (.invokevirtual 362, 29, 362, .null, [])),
  (29, (.return_, 30, 0, .null, []))]
def mD_putLabel : List (Nat × XM) := [(183, (2, 0, some 8, FD_takeLabel)), (359, (3, 0, some 2, FLb_put)), (362, (4, 0, some 0, FB_paint))]
abbrev BD_putLabel : XB := (rD_putLabel, XFT_D, mD_putLabel, 0, XST_D)
set_option maxRecDepth 100000 in
theorem kD_putLabel : XOK BD_putLabel cX8_putLabel 3 RX8 4 93 := xok_of (cps := []) (K := XKT_D) (by decide +kernel) XKT_D_ok (fun _ h => absurd h List.not_mem_nil) XFT_D_ok (List.forall_mem_cons.mpr ⟨⟨_, _, _, _, _, _, _, SD_takeLabel, rfl, rfl, Nat.le_of_ble_eq_true rfl, Nat.le_of_ble_eq_true rfl, cdD_takeLabel, lkD_183, imD_takeLabel, slD_takeLabel, inD_takeLabel, pmD_takeLabel⟩, List.forall_mem_cons.mpr ⟨⟨_, _, _, _, _, _, _, SLb_put, rfl, rfl, Nat.le_of_ble_eq_true rfl, Nat.le_of_ble_eq_true rfl, cdLb_put, lkD_359, imLb_put, slLb_put, inLb_put, pmLb_put⟩, List.forall_mem_cons.mpr ⟨⟨_, _, _, _, _, _, _, SB_paint, rfl, rfl, Nat.le_of_ble_eq_true rfl, Nat.le_of_ble_eq_true rfl, cdB_paint, lkD_362, imB_paint, slB_paint, inB_paint, pmB_paint⟩, fun _ h => absurd h List.not_mem_nil⟩⟩⟩) XST_D_ok
def wD_putLabel (f : Nat → Int32 → Int32 → XH → XR) : List Value → List Value → XH → XR := fun vs st h => match vs, st with
  | [.ref a0, .int x1, .int x2], [] => f a0 x1 x2 h
  | _, _ => none
set_option maxRecDepth 100000 in
theorem eD_putLabel (a0 : Nat) (x1 : Int32) (x2 : Int32) (h : XH) : qD_putLabel a0 x1 x2 h = xrun BD_putLabel (xfind []) 21 0 (List.zip [0, 1, 2] [.ref a0, .int x1, .int x2]) [] h := rfl
theorem tD_putLabel : XTo cX8_putLabel 3 RX8 0 4 93 0 [0, 1, 2] (wD_putLabel (qD_putLabel)) := by
  refine XTo.run (B := BD_putLabel) (cut := xfind []) kD_putLabel (xcuts_ok (fun _ h => absurd h List.not_mem_nil)) 21 (fun vs st h r hr => ?_)
  unfold wD_putLabel at hr
  split at hr
  · exact (eD_putLabel _ _ _ _).symm.trans hr
  · cases hr
def FD_putLabel : List Value → XH → XR := fun vs h => match vs with
  | [.ref a0, .int x1, .int x2] => qD_putLabel a0 x1 x2 h
  | _ => none
theorem SD_putLabel : XS yX8_putLabel cX8_putLabel 3 none (xrm 4 93) FD_putLabel := by
  refine XS.of (own := RX8) (by decide) rfl (rk := 0) rfl (tD_putLabel) (fun vs h r hr => ?_)
  unfold FD_putLabel at hr
  split at hr
  · exact ⟨rfl, Nat.le_of_ble_eq_true rfl, hr⟩
  · cases hr
-- LineDiagram.label(III)I
def rD_label : List (Nat × XRow) := [(0, (.aload_n 0, 1, 0, .null, [])),
  (1, (.iload_n 1, 2, 1, .null, [])),
  (2, (.iload_n 2, 3, 2, .null, [])),
  (3, (.invokevirtual 151, 6, 151, .null, [])),
  (6, (.ifCond .eq 10, 9, 16, .null, [])),
  (9, (.iload_n 3, 10, 3, .null, [])),
  (10, (.invokestatic 154, 13, 154, .null, [])),
  (13, (.ifCond .ne 5, 16, 18, .null, [])),
  (16, (.iconst (-1), 17, 0, .int (-1 : Int32), [])),
  (17, (.ireturn, 18, 0, .null, [])),
  (18, (.aload_n 0, 19, 0, .null, [])),
  (19, (.getfield 54, 22, 54, .null, [])),
  (22, (.iload_n 1, 23, 1, .null, [])),
  (23, (.iload_n 2, 24, 2, .null, [])),
  (24, (.invokevirtual 157, 27, 157, .null, [])),
  (27, (.istore 4, 29, 4, .null, [])),
  (29, (.aload_n 0, 30, 0, .null, [])),
  (30, (.getfield 29, 33, 29, .null, [])),
  (33, (.getfield 161, 36, 161, .null, [])),
  (36, (.iload 4, 38, 4, .null, [])),
  (38, (.invokevirtual 165, 41, 165, .null, [])),
  (41, (.iload_n 3, 42, 3, .null, [])),
  (42, (.if_icmp .ne 6, 45, 48, .null, [])),
  (45, (.bipush (-2), 47, 0, .int (-2 : Int32), [])),
  (47, (.ireturn, 48, 0, .null, [])),
  (48, (.aload_n 0, 49, 0, .null, [])),
  (49, (.getfield 54, 52, 54, .null, [])),
  (52, (.iload 4, 54, 4, .null, [])),
  (54, (.iload_n 3, 55, 3, .null, [])),
  (55, (.invokevirtual 170, 58, 170, .null, [])),
  (58, (.istore 5, 60, 5, .null, [])),
  (60, (.iload 5, 62, 5, .null, [])),
  (62, (.ifCond .ge 6, 65, 68, .null, [])),
  (65, (.iload 5, 67, 5, .null, [])),
  (67, (.ireturn, 68, 0, .null, [])),
  (68, (.aload_n 0, 69, 0, .null, [])),
  (69, (.getfield 47, 72, 47, .null, [])),
  (72, (.aload_n 0, 73, 0, .null, [])),
  (73, (.getfield 29, 76, 29, .null, [])),
  (76, (.invokevirtual 173, 79, 173, .null, [])),
  (79, (.aload_n 0, 80, 0, .null, [])),
  (80, (.iload 4, 82, 4, .null, [])),
  (82, (.iload_n 3, 83, 3, .null, [])),
  (83, (.invokevirtual 176, 86, 176, .null, [])),
  (86, (.aload_n 0, 87, 0, .null, [])),
  (87, (.getfield 54, 90, 54, .null, [])),
  (90, (.getfield 179, 93, 179, .null, [])),
  (93, (.iload 4, 95, 4, .null, [])),
  (95, (.iaload, 96, 0, .null, [])),
  (96, (.ireturn, 97, 0, .null, []))]
def mD_label : List (Nat × XM) := [(151, (3, 1, some 8, FD_isStation)), (154, (1, 1, none, FD_isPosition)), (157, (3, 1, some 0, FB_stationCell)), (165, (2, 1, some 2, FLb_positionOf)), (170, (3, 1, some 0, FB_reason)), (173, (2, 0, some 1, FH_push)), (176, (3, 0, some 8, FD_putLabel))]
abbrev BD_label : XB := (rD_label, XFT_D, mD_label, 1, XST_D)
set_option maxRecDepth 100000 in
theorem kD_label : XOK BD_label cX8_label 6 RX8 5 128 := xok_of (cps := []) (K := XKT_D) (by decide +kernel) XKT_D_ok (fun _ h => absurd h List.not_mem_nil) XFT_D_ok (List.forall_mem_cons.mpr ⟨⟨_, _, _, _, _, _, _, SD_isStation, rfl, rfl, Nat.le_of_ble_eq_true rfl, Nat.le_of_ble_eq_true rfl, cdD_isStation, lkD_151, imD_isStation, slD_isStation, inD_isStation, pmD_isStation⟩, List.forall_mem_cons.mpr ⟨⟨_, _, _, _, _, _, SD_isPosition, Nat.le_of_ble_eq_true rfl, Nat.le_of_ble_eq_true rfl, cdD_isPosition, lkD_154, imD_isPosition, inD_isPosition, pmD_isPosition⟩, List.forall_mem_cons.mpr ⟨⟨_, _, _, _, _, _, _, SB_stationCell, rfl, rfl, Nat.le_of_ble_eq_true rfl, Nat.le_of_ble_eq_true rfl, cdB_stationCell, lkD_157, imB_stationCell, slB_stationCell, inB_stationCell, pmB_stationCell⟩, List.forall_mem_cons.mpr ⟨⟨_, _, _, _, _, _, _, SLb_positionOf, rfl, rfl, Nat.le_of_ble_eq_true rfl, Nat.le_of_ble_eq_true rfl, cdLb_positionOf, lkD_165, imLb_positionOf, slLb_positionOf, inLb_positionOf, pmLb_positionOf⟩, List.forall_mem_cons.mpr ⟨⟨_, _, _, _, _, _, _, SB_reason, rfl, rfl, Nat.le_of_ble_eq_true rfl, Nat.le_of_ble_eq_true rfl, cdB_reason, lkD_170, imB_reason, slB_reason, inB_reason, pmB_reason⟩, List.forall_mem_cons.mpr ⟨⟨_, _, _, _, _, _, _, SH_push, rfl, rfl, Nat.le_of_ble_eq_true rfl, Nat.le_of_ble_eq_true rfl, cdH_push, lkD_173, imH_push, slH_push, inH_push, pmH_push⟩, List.forall_mem_cons.mpr ⟨⟨_, _, _, _, _, _, _, SD_putLabel, rfl, rfl, Nat.le_of_ble_eq_true rfl, Nat.le_of_ble_eq_true rfl, cdD_putLabel, lkD_176, imD_putLabel, slD_putLabel, inD_putLabel, pmD_putLabel⟩, fun _ h => absurd h List.not_mem_nil⟩⟩⟩⟩⟩⟩⟩) XST_D_ok
def wD_label (f : Nat → Int32 → Int32 → Int32 → XH → XR) : List Value → List Value → XH → XR := fun vs st h => match vs, st with
  | [.ref a0, .int x1, .int x2, .int x3], [] => f a0 x1 x2 x3 h
  | _, _ => none
set_option maxRecDepth 100000 in
theorem eD_label (a0 : Nat) (x1 : Int32) (x2 : Int32) (x3 : Int32) (h : XH) : qD_label a0 x1 x2 x3 h = xrun BD_label (xfind []) 53 0 (List.zip [0, 1, 2, 3] [.ref a0, .int x1, .int x2, .int x3]) [] h := rfl
theorem tD_label : XTo cX8_label 6 RX8 1 5 128 0 [0, 1, 2, 3] (wD_label (qD_label)) := by
  refine XTo.run (B := BD_label) (cut := xfind []) kD_label (xcuts_ok (fun _ h => absurd h List.not_mem_nil)) 53 (fun vs st h r hr => ?_)
  unfold wD_label at hr
  split at hr
  · exact (eD_label _ _ _ _ _).symm.trans hr
  · cases hr
def FD_label : List Value → XH → XR := fun vs h => match vs with
  | [.ref a0, .int x1, .int x2, .int x3] => qD_label a0 x1 x2 x3 h
  | _ => none
theorem SD_label : XS yX8_label cX8_label 6 (some .int) (xrm 5 128) FD_label := by
  refine XS.of (own := RX8) (by decide) rfl (rk := 1) rfl (tD_label) (fun vs h r hr => ?_)
  unfold FD_label at hr
  split at hr
  · exact ⟨rfl, Nat.le_of_ble_eq_true rfl, hr⟩
  · cases hr
-- LineDiagramModel.isStation(II)Z
def rM_isStation : List (Nat × XRow) := [(0, (.aload_n 0, 1, 0, .null, [])),
  (1, (.iload_n 1, 2, 1, .null, [])),
  (2, (.invokevirtual 103, 5, 103, .null, [])),
  (5, (.ifCond .eq 25, 8, 30, .null, [])),
  (8, (.iload_n 2, 9, 2, .null, [])),
  (9, (.i2l, 10, 0, .null, [])),
  (10, (.lconst 0, 11, 0, .long (0 : Int64), [])),
  (11, (.aload_n 0, 12, 0, .null, [])),
  (12, (.iload_n 1, 13, 1, .null, [])),
  (13, (.iconst 1, 14, 0, .int (1 : Int32), [])),
  (14, (.invokevirtual 88, 17, 88, .null, [])),
  (17, (.iconst 1, 18, 0, .int (1 : Int32), [])),
  (18, (.isub, 19, 0, .null, [])),
  (19, (.i2l, 20, 0, .null, [])),
  (20, (.invokestatic 96, 23, 96, .null, [])),
  (23, (.ifCond .eq 7, 26, 30, .null, [])),
  (26, (.iconst 1, 27, 0, .int (1 : Int32), [])),
  (27, (.goto 4, 30, 31, .null, [])),
  (30, (.iconst 0, 31, 0, .int (0 : Int32), [])),
  (31, (.ireturn, 32, 0, .null, []))]
def mM_isStation : List (Nat × XM) := [(88, (3, 1, some 9, FM_of)), (96, (3, 1, none, FM_in)), (103, (2, 1, some 9, FM_isLine))]
abbrev BM_isStation : XB := (rM_isStation, XFT_M, mM_isStation, 6, XST_M)
set_option maxRecDepth 100000 in
theorem kM_isStation : XOK BM_isStation cX9_isStation 3 RX9 2 46 := xok_of (cps := []) (K := XKT_M) (by decide +kernel) XKT_M_ok (fun _ h => absurd h List.not_mem_nil) XFT_M_ok (List.forall_mem_cons.mpr ⟨⟨_, _, _, _, _, _, _, SM_of, rfl, rfl, Nat.le_of_ble_eq_true rfl, Nat.le_of_ble_eq_true rfl, cdM_of, lkM_88, imM_of, slM_of, inM_of, pmM_of⟩, List.forall_mem_cons.mpr ⟨⟨_, _, _, _, _, _, SM_in, Nat.le_of_ble_eq_true rfl, Nat.le_of_ble_eq_true rfl, cdM_in, lkM_96, imM_in, inM_in, pmM_in⟩, List.forall_mem_cons.mpr ⟨⟨_, _, _, _, _, _, _, SM_isLine, rfl, rfl, Nat.le_of_ble_eq_true rfl, Nat.le_of_ble_eq_true rfl, cdM_isLine, lkM_103, imM_isLine, slM_isLine, inM_isLine, pmM_isLine⟩, fun _ h => absurd h List.not_mem_nil⟩⟩⟩) XST_M_ok
def wM_isStation (f : Nat → Int32 → Int32 → XH → XR) : List Value → List Value → XH → XR := fun vs st h => match vs, st with
  | [.ref a0, .int x1, .int x2], [] => f a0 x1 x2 h
  | _, _ => none
set_option maxRecDepth 100000 in
theorem eM_isStation (a0 : Nat) (x1 : Int32) (x2 : Int32) (h : XH) : qM_isStation a0 x1 x2 h = xrun BM_isStation (xfind []) 23 0 (List.zip [0, 1, 2] [.ref a0, .int x1, .int x2]) [] h := rfl
theorem tM_isStation : XTo cX9_isStation 3 RX9 6 2 46 0 [0, 1, 2] (wM_isStation (qM_isStation)) := by
  refine XTo.run (B := BM_isStation) (cut := xfind []) kM_isStation (xcuts_ok (fun _ h => absurd h List.not_mem_nil)) 23 (fun vs st h r hr => ?_)
  unfold wM_isStation at hr
  split at hr
  · exact (eM_isStation _ _ _ _).symm.trans hr
  · cases hr
def FM_isStation : List Value → XH → XR := fun vs h => match vs with
  | [.ref a0, .int x1, .int x2] => qM_isStation a0 x1 x2 h
  | _ => none
theorem SM_isStation : XS yX9_isStation cX9_isStation 3 (some .boolean) (xrm 2 46) FM_isStation := by
  refine XS.of (own := RX9) (by decide) rfl (rk := 6) rfl (tM_isStation) (fun vs h r hr => ?_)
  unfold FM_isStation at hr
  split at hr
  · exact ⟨rfl, Nat.le_of_ble_eq_true rfl, hr⟩
  · cases hr
