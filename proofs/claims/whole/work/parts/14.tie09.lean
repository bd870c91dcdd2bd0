-- LineDiagramModel.faultOf(I)I
def rM_faultOf : List (Nat × XRow) := [(0, (.iconst 0, 1, 0, .int (0 : Int32), [])),
  (1, (.istore_n 2, 2, 2, .null, [])),
  (2, (.iload_n 2, 3, 2, .null, [])),
  (3, (.iconst 1, 4, 0, .int (1 : Int32), [])),
  (4, (.iadd, 5, 0, .null, [])),
  (5, (.aload_n 0, 6, 0, .null, [])),
  (6, (.iload_n 1, 7, 1, .null, [])),
  (7, (.iconst 2, 8, 0, .int (2 : Int32), [])),
  (8, (.invokevirtual 88, 11, 88, .null, [])),
  (11, (.if_icmp .ge 38, 14, 49, .null, [])),
  (14, (.aload_n 0, 15, 0, .null, [])),
  (15, (.iload_n 1, 16, 1, .null, [])),
  (16, (.iload_n 2, 17, 2, .null, [])),
  (17, (.invokevirtual 130, 20, 130, .null, [])),
  (20, (.ifCond .lt 20, 23, 40, .null, [])),
  (23, (.iload_n 2, 24, 2, .null, [])),
  (24, (.ifCond .le 19, 27, 43, .null, [])),
  (27, (.aload_n 0, 28, 0, .null, [])),
  (28, (.iload_n 1, 29, 1, .null, [])),
  (29, (.iload_n 2, 30, 2, .null, [])),
  (30, (.invokevirtual 139, 33, 139, .null, [])),
  (33, (.aload_n 0, 34, 0, .null, [])),
  (34, (.getfield 79, 37, 79, .null, [])),
  (37, (.if_icmp .le 6, 40, 43, .null, [])),
  (40, (.bipush (-3), 42, 0, .int (-3 : Int32), [])),
  (42, (.ireturn, 43, 0, .null, [])),
  (43, (.iinc 2 1, 46, 2, .int (1 : Int32), [])),
  (46, (.goto (-44), 49, 2, .null, [])),
  (49, (.aload_n 0, 50, 0, .null, [])),
  (50, (.iload_n 1, 51, 1, .null, [])),
  (51, (.invokevirtual 142, 54, 142, .null, [])),
  (54, (.aload_n 0, 55, 0, .null, [])),
  (55, (.iload_n 1, 56, 1, .null, [])),
  (56, (.iconst 1, 57, 0, .int (1 : Int32), [])),
  (57, (.invokevirtual 88, 60, 88, .null, [])),
  (60, (.iconst 1, 61, 0, .int (1 : Int32), [])),
  (61, (.isub, 62, 0, .null, [])),
  (62, (.if_icmp .ge 8, 65, 70, .null, [])),
  (65, (.bipush (-4), 67, 0, .int (-4 : Int32), [])),
  (67, (.goto 4, 70, 71, .null, [])),
  (70, (.iconst 0, 71, 0, .int (0 : Int32), [])),
  (71, (.ireturn, 72, 0, .null, []))]
def mM_faultOf : List (Nat × XM) := [(88, (3, 1, some 9, FM_of)), (130, (3, 1, some 9, FM_wayOf)), (139, (3, 1, some 9, FM_turnAt)), (142, (2, 1, some 9, FM_lengthOf))]
abbrev BM_faultOf : XB := (rM_faultOf, XFT_M, mM_faultOf, 1, XST_M)
set_option maxRecDepth 100000 in
theorem kM_faultOf : XOK BM_faultOf cX9_faultOf 3 RX9 4 91 := xok_of (cps := []) (K := XKT_M) (by decide +kernel) XKT_M_ok (fun _ h => absurd h List.not_mem_nil) XFT_M_ok (List.forall_mem_cons.mpr ⟨⟨_, _, _, _, _, _, _, SM_of, rfl, rfl, Nat.le_of_ble_eq_true rfl, Nat.le_of_ble_eq_true rfl, cdM_of, lkM_88, imM_of, slM_of, inM_of, pmM_of⟩, List.forall_mem_cons.mpr ⟨⟨_, _, _, _, _, _, _, SM_wayOf, rfl, rfl, Nat.le_of_ble_eq_true rfl, Nat.le_of_ble_eq_true rfl, cdM_wayOf, lkM_130, imM_wayOf, slM_wayOf, inM_wayOf, pmM_wayOf⟩, List.forall_mem_cons.mpr ⟨⟨_, _, _, _, _, _, _, SM_turnAt, rfl, rfl, Nat.le_of_ble_eq_true rfl, Nat.le_of_ble_eq_true rfl, cdM_turnAt, lkM_139, imM_turnAt, slM_turnAt, inM_turnAt, pmM_turnAt⟩, List.forall_mem_cons.mpr ⟨⟨_, _, _, _, _, _, _, SM_lengthOf, rfl, rfl, Nat.le_of_ble_eq_true rfl, Nat.le_of_ble_eq_true rfl, cdM_lengthOf, lkM_142, imM_lengthOf, slM_lengthOf, inM_lengthOf, pmM_lengthOf⟩, fun _ h => absurd h List.not_mem_nil⟩⟩⟩⟩) XST_M_ok
def wM_faultOf_49 (f : Nat → Int32 → XH → XR) : List Value → List Value → XH → XR := fun vs st h => match vs, st with
  | [.ref a0, .int x1], [] => f a0 x1 h
  | _, _ => none
def wM_faultOf_2 (f : Nat → Int32 → Int32 → XH → XR) : List Value → List Value → XH → XR := fun vs st h => match vs, st with
  | [.ref a0, .int x1, .int x2], [] => f a0 x1 x2 h
  | _, _ => none
def wM_faultOf (f : Nat → Int32 → XH → XR) : List Value → List Value → XH → XR := fun vs st h => match vs, st with
  | [.ref a0, .int x1], [] => f a0 x1 h
  | _, _ => none
set_option maxRecDepth 100000 in
theorem eM_faultOf_49 (a0 : Nat) (x1 : Int32) (h : XH) : qM_faultOf_49 a0 x1 h = xrun BM_faultOf (xfind []) 45 49 (List.zip [0, 1] [.ref a0, .int x1]) [] h := rfl
theorem tM_faultOf_49 : XTo cX9_faultOf 3 RX9 1 4 91 49 [0, 1] (wM_faultOf_49 (qM_faultOf_49)) := by
  refine XTo.run (B := BM_faultOf) (cut := xfind []) kM_faultOf (xcuts_ok (fun _ h => absurd h List.not_mem_nil)) 45 (fun vs st h r hr => ?_)
  unfold wM_faultOf_49 at hr
  split at hr
  · exact (eM_faultOf_49 _ _ _).symm.trans hr
  · cases hr
set_option maxRecDepth 100000 in
theorem eM_faultOf_2_b (k2 : Nat → Int32 → Int32 → XH → XR) (a0 : Nat) (x1 : Int32) (x2 : Int32) (h : XH) : qM_faultOf_2_b k2 a0 x1 x2 h = xrun BM_faultOf (xfind [(2, ([0, 1, 2], wM_faultOf_2 (k2))), (49, ([0, 1], wM_faultOf_49 (qM_faultOf_49)))]) 45 2 (List.zip [0, 1, 2] [.ref a0, .int x1, .int x2]) [] h := rfl
theorem tM_faultOf_2_b {k2 : Nat → Int32 → Int32 → XH → XR} (hk2 : XTo cX9_faultOf 3 RX9 1 4 91 2 [0, 1, 2] (wM_faultOf_2 k2)) : XTo cX9_faultOf 3 RX9 1 4 91 2 [0, 1, 2] (wM_faultOf_2 (qM_faultOf_2_b k2)) := by
  refine XTo.run (B := BM_faultOf) (cut := xfind [(2, ([0, 1, 2], wM_faultOf_2 (k2))), (49, ([0, 1], wM_faultOf_49 (qM_faultOf_49)))]) kM_faultOf (xcuts_ok (List.forall_mem_cons.mpr ⟨hk2, List.forall_mem_cons.mpr ⟨tM_faultOf_49, fun _ h => absurd h List.not_mem_nil⟩⟩)) 45 (fun vs st h r hr => ?_)
  unfold wM_faultOf_2 at hr
  split at hr
  · exact (eM_faultOf_2_b k2 _ _ _ _).symm.trans hr
  · cases hr
theorem tM_faultOf_2 : ∀ n : Nat, XTo cX9_faultOf 3 RX9 1 4 91 2 [0, 1, 2] (wM_faultOf_2 (qM_faultOf_2 n)) := by
  intro n
  induction n with
  | zero =>
    refine XTo.none fun vs st h => ?_
    unfold wM_faultOf_2
    split <;> rfl
  | succ n ih => exact tM_faultOf_2_b  ih
set_option maxRecDepth 100000 in
theorem eM_faultOf (a0 : Nat) (x1 : Int32) (h : XH) : qM_faultOf a0 x1 h = xrun BM_faultOf (xfind [(2, ([0, 1, 2], wM_faultOf_2 (qM_faultOf_2 LF)))]) 45 0 (List.zip [0, 1] [.ref a0, .int x1]) [] h := rfl
theorem tM_faultOf : XTo cX9_faultOf 3 RX9 1 4 91 0 [0, 1] (wM_faultOf (qM_faultOf)) := by
  refine XTo.run (B := BM_faultOf) (cut := xfind [(2, ([0, 1, 2], wM_faultOf_2 (qM_faultOf_2 LF)))]) kM_faultOf (xcuts_ok (List.forall_mem_cons.mpr ⟨tM_faultOf_2 LF, fun _ h => absurd h List.not_mem_nil⟩)) 45 (fun vs st h r hr => ?_)
  unfold wM_faultOf at hr
  split at hr
  · exact (eM_faultOf _ _ _).symm.trans hr
  · cases hr
def FM_faultOf : List Value → XH → XR := fun vs h => match vs with
  | [.ref a0, .int x1] => qM_faultOf a0 x1 h
  | _ => none
theorem SM_faultOf : XS yX9_faultOf cX9_faultOf 3 (some .int) (xrm 4 91) FM_faultOf := by
  refine XS.of (own := RX9) (by decide) rfl (rk := 1) rfl (tM_faultOf) (fun vs h r hr => ?_)
  unfold FM_faultOf at hr
  split at hr
  · exact ⟨rfl, Nat.le_of_ble_eq_true rfl, hr⟩
  · cases hr
-- LineDiagramModel.comesBack()V
def rM_comesBack : List (Nat × XRow) := [(0, (.iconst 0, 1, 0, .int (0 : Int32), [])),
  (1, (.istore_n 1, 2, 1, .null, [])),
  (2, (.iload_n 1, 3, 1, .null, [])),
  (3, (.sipush 1784, 6, 0, .int (1784 : Int32), [])),
  (6, (.if_icmp .ge 21, 9, 27, .null, [])),
  (9, (.aload_n 0, 10, 0, .null, [])),
  (10, (.getfield 21, 13, 21, .null, [])),
  (13, (.iload_n 1, 14, 1, .null, [])),
  (14, (.aload_n 0, 15, 0, .null, [])),
  (15, (.getfield 24, 18, 24, .null, [])),
  (18, (.iload_n 1, 19, 1, .null, [])),
  (19, (.iaload, 20, 0, .null, [])),
  (20, (.iastore, 21, 0, .null, [])),
  (21, (.iinc 1 1, 24, 1, .int (1 : Int32), [])),
  (24, (.goto (-22), 27, 2, .null, [])),
  (27, (.return_, 28, 0, .null, []))]
def mM_comesBack : List (Nat × XM) := []
abbrev BM_comesBack : XB := (rM_comesBack, XFT_M, mM_comesBack, 0, XST_M)
set_option maxRecDepth 100000 in
theorem kM_comesBack : XOK BM_comesBack cX9_comesBack 2 RX9 0 0 := xok_of (cps := []) (K := XKT_M) (by decide +kernel) XKT_M_ok (fun _ h => absurd h List.not_mem_nil) XFT_M_ok (fun _ h => absurd h List.not_mem_nil) XST_M_ok
def wM_comesBack_2 (f : Nat → Int32 → XH → XR) : List Value → List Value → XH → XR := fun vs st h => match vs, st with
  | [.ref a0, .int x1], [] => f a0 x1 h
  | _, _ => none
def wM_comesBack (f : Nat → XH → XR) : List Value → List Value → XH → XR := fun vs st h => match vs, st with
  | [.ref a0], [] => f a0 h
  | _, _ => none
set_option maxRecDepth 100000 in
theorem eM_comesBack_2_b (k2 : Nat → Int32 → XH → XR) (a0 : Nat) (x1 : Int32) (h : XH) : qM_comesBack_2_b k2 a0 x1 h = xrun BM_comesBack (xfind [(2, ([0, 1], wM_comesBack_2 (k2)))]) 19 2 (List.zip [0, 1] [.ref a0, .int x1]) [] h := rfl
theorem tM_comesBack_2_b {k2 : Nat → Int32 → XH → XR} (hk2 : XTo cX9_comesBack 2 RX9 0 0 0 2 [0, 1] (wM_comesBack_2 k2)) : XTo cX9_comesBack 2 RX9 0 0 0 2 [0, 1] (wM_comesBack_2 (qM_comesBack_2_b k2)) := by
  refine XTo.run (B := BM_comesBack) (cut := xfind [(2, ([0, 1], wM_comesBack_2 (k2)))]) kM_comesBack (xcuts_ok (List.forall_mem_cons.mpr ⟨hk2, fun _ h => absurd h List.not_mem_nil⟩)) 19 (fun vs st h r hr => ?_)
  unfold wM_comesBack_2 at hr
  split at hr
  · exact (eM_comesBack_2_b k2 _ _ _).symm.trans hr
  · cases hr
theorem tM_comesBack_2 : ∀ n : Nat, XTo cX9_comesBack 2 RX9 0 0 0 2 [0, 1] (wM_comesBack_2 (qM_comesBack_2 n)) := by
  intro n
  induction n with
  | zero =>
    refine XTo.none fun vs st h => ?_
    unfold wM_comesBack_2
    split <;> rfl
  | succ n ih => exact tM_comesBack_2_b  ih
set_option maxRecDepth 100000 in
theorem eM_comesBack (a0 : Nat) (h : XH) : qM_comesBack a0 h = xrun BM_comesBack (xfind [(2, ([0, 1], wM_comesBack_2 (qM_comesBack_2 LF)))]) 19 0 (List.zip [0] [.ref a0]) [] h := rfl
theorem tM_comesBack : XTo cX9_comesBack 2 RX9 0 0 0 0 [0] (wM_comesBack (qM_comesBack)) := by
  refine XTo.run (B := BM_comesBack) (cut := xfind [(2, ([0, 1], wM_comesBack_2 (qM_comesBack_2 LF)))]) kM_comesBack (xcuts_ok (List.forall_mem_cons.mpr ⟨tM_comesBack_2 LF, fun _ h => absurd h List.not_mem_nil⟩)) 19 (fun vs st h r hr => ?_)
  unfold wM_comesBack at hr
  split at hr
  · exact (eM_comesBack _ _).symm.trans hr
  · cases hr
def FM_comesBack : List Value → XH → XR := fun vs h => match vs with
  | [.ref a0] => qM_comesBack a0 h
  | _ => none
theorem SM_comesBack : XS yX9_comesBack cX9_comesBack 2 none (xrm 0 0) FM_comesBack := by
  refine XS.of (own := RX9) (by decide) rfl (rk := 0) rfl (tM_comesBack) (fun vs h r hr => ?_)
  unfold FM_comesBack at hr
  split at hr
  · exact ⟨rfl, Nat.le_of_ble_eq_true rfl, hr⟩
  · cases hr
-- LineDiagramModel.cell(II)I
def rM_cell : List (Nat × XRow) := [(0, (.bipush 40, 2, 0, .int (40 : Int32), [])),
  (2, (.iload_n 1, 3, 1, .null, [])),
  (3, (.imul, 4, 0, .null, [])),
  (4, (.iload_n 0, 5, 0, .null, [])),
  (5, (.iadd, 6, 0, .null, [])),
  (6, (.ireturn, 7, 0, .null, []))]
def mM_cell : List (Nat × XM) := []
abbrev BM_cell : XB := (rM_cell, XFT_M, mM_cell, 1, XST_M)
set_option maxRecDepth 100000 in
theorem kM_cell : XOK BM_cell cX9_cell 2 RX9 0 0 := xok_of (cps := []) (K := XKT_M) (by decide +kernel) XKT_M_ok (fun _ h => absurd h List.not_mem_nil) XFT_M_ok (fun _ h => absurd h List.not_mem_nil) XST_M_ok
def wM_cell (f : Int32 → Int32 → XH → XR) : List Value → List Value → XH → XR := fun vs st h => match vs, st with
  | [.int x0, .int x1], [] => f x0 x1 h
  | _, _ => none
set_option maxRecDepth 100000 in
theorem eM_cell (x0 : Int32) (x1 : Int32) (h : XH) : qM_cell x0 x1 h = xrun BM_cell (xfind []) 9 0 (List.zip [0, 1] [.int x0, .int x1]) [] h := rfl
theorem tM_cell : XTo cX9_cell 2 RX9 1 0 0 0 [0, 1] (wM_cell (qM_cell)) := by
  refine XTo.run (B := BM_cell) (cut := xfind []) kM_cell (xcuts_ok (fun _ h => absurd h List.not_mem_nil)) 9 (fun vs st h r hr => ?_)
  unfold wM_cell at hr
  split at hr
  · exact (eM_cell _ _ _).symm.trans hr
  · cases hr
def FM_cell : List Value → XH → XR := fun vs h => match vs with
  | [.int x0, .int x1] => qM_cell x0 x1 h
  | _ => none
theorem SM_cell : XS yX9_cell cX9_cell 2 (some .int) (xrm 0 0) FM_cell := by
  refine XS.of (own := RX9) (by decide) rfl (rk := 1) rfl (tM_cell) (fun vs h r hr => ?_)
  unfold FM_cell at hr
  split at hr
  · exact ⟨rfl, Nat.le_of_ble_eq_true rfl, hr⟩
  · cases hr
-- LineDiagramModel.columnOf(II)I
def rM_columnOf : List (Nat × XRow) := [(0, (.iload_n 1, 1, 1, .null, [])),
  (1, (.bipush 40, 3, 0, .int (40 : Int32), [])),
  (3, (.irem, 4, 0, .null, [])),
  (4, (.istore_n 3, 5, 3, .null, [])),
  (5, (.iload_n 2, 6, 2, .null, [])),
  (6, (.iconst 5, 7, 0, .int (5 : Int32), [])),
  (7, (.if_icmp .le 16, 10, 23, .null, [])),
  (10, (.iload_n 3, 11, 3, .null, [])),
  (11, (.aload_n 0, 12, 0, .null, [])),
  (12, (.getfield 55, 15, 55, .null, [])),
  (15, (.iload_n 1, 16, 1, .null, [])),
  (16, (.iaload, 17, 0, .null, [])),
  (17, (.iconst 2, 18, 0, .int (2 : Int32), [])),
  (18, (.idiv, 19, 0, .null, [])),
  (19, (.isub, 20, 0, .null, [])),
  (20, (.goto 27, 23, 47, .null, [])),
  (23, (.iload_n 2, 24, 2, .null, [])),
  (24, (.iconst 1, 25, 0, .int (1 : Int32), [])),
  (25, (.if_icmp .eq 8, 28, 33, .null, [])),
  (28, (.iload_n 2, 29, 2, .null, [])),
  (29, (.iconst 3, 30, 0, .int (3 : Int32), [])),
  (30, (.if_icmp .le 14, 33, 44, .null, [])),
  (33, (.iload_n 3, 34, 3, .null, [])),
  (34, (.aload_n 0, 35, 0, .null, [])),
  (35, (.getfield 55, 38, 55, .null, [])),
  (38, (.iload_n 1, 39, 1, .null, [])),
  (39, (.iaload, 40, 0, .null, [])),
  (40, (.isub, 41, 0, .null, [])),
  (41, (.goto 6, 44, 47, .null, [])),
  (44, (.iload_n 3, 45, 3, .null, [])),
  (45, (.iconst 1, 46, 0, .int (1 : Int32), [])),
  (46, (.iadd, 47, 0, .null, [])),
  (47, (.ireturn, 48, 0, .null, []))]
def mM_columnOf : List (Nat × XM) := []
abbrev BM_columnOf : XB := (rM_columnOf, XFT_M, mM_columnOf, 1, XST_M)
set_option maxRecDepth 100000 in
theorem kM_columnOf : XOK BM_columnOf cX9_columnOf 4 RX9 0 0 := xok_of (cps := []) (K := XKT_M) (by decide +kernel) XKT_M_ok (fun _ h => absurd h List.not_mem_nil) XFT_M_ok (fun _ h => absurd h List.not_mem_nil) XST_M_ok
def wM_columnOf_33 (f : Nat → Int32 → Int32 → XH → XR) : List Value → List Value → XH → XR := fun vs st h => match vs, st with
  | [.ref a0, .int x1, .int x3], [] => f a0 x1 x3 h
  | _, _ => none
def wM_columnOf (f : Nat → Int32 → Int32 → XH → XR) : List Value → List Value → XH → XR := fun vs st h => match vs, st with
  | [.ref a0, .int x1, .int x2], [] => f a0 x1 x2 h
  | _, _ => none
set_option maxRecDepth 100000 in
theorem eM_columnOf_33 (a0 : Nat) (x1 : Int32) (x3 : Int32) (h : XH) : qM_columnOf_33 a0 x1 x3 h = xrun BM_columnOf (xfind []) 36 33 (List.zip [0, 1, 3] [.ref a0, .int x1, .int x3]) [] h := rfl
theorem tM_columnOf_33 : XTo cX9_columnOf 4 RX9 1 0 0 33 [0, 1, 3] (wM_columnOf_33 (qM_columnOf_33)) := by
  refine XTo.run (B := BM_columnOf) (cut := xfind []) kM_columnOf (xcuts_ok (fun _ h => absurd h List.not_mem_nil)) 36 (fun vs st h r hr => ?_)
  unfold wM_columnOf_33 at hr
  split at hr
  · exact (eM_columnOf_33 _ _ _ _).symm.trans hr
  · cases hr
set_option maxRecDepth 100000 in
theorem eM_columnOf (a0 : Nat) (x1 : Int32) (x2 : Int32) (h : XH) : qM_columnOf a0 x1 x2 h = xrun BM_columnOf (xfind [(33, ([0, 1, 3], wM_columnOf_33 (qM_columnOf_33)))]) 36 0 (List.zip [0, 1, 2] [.ref a0, .int x1, .int x2]) [] h := rfl
theorem tM_columnOf : XTo cX9_columnOf 4 RX9 1 0 0 0 [0, 1, 2] (wM_columnOf (qM_columnOf)) := by
  refine XTo.run (B := BM_columnOf) (cut := xfind [(33, ([0, 1, 3], wM_columnOf_33 (qM_columnOf_33)))]) kM_columnOf (xcuts_ok (List.forall_mem_cons.mpr ⟨tM_columnOf_33, fun _ h => absurd h List.not_mem_nil⟩)) 36 (fun vs st h r hr => ?_)
  unfold wM_columnOf at hr
  split at hr
  · exact (eM_columnOf _ _ _ _).symm.trans hr
  · cases hr
def FM_columnOf : List Value → XH → XR := fun vs h => match vs with
  | [.ref a0, .int x1, .int x2] => qM_columnOf a0 x1 x2 h
  | _ => none
theorem SM_columnOf : XS yX9_columnOf cX9_columnOf 4 (some .int) (xrm 0 0) FM_columnOf := by
  refine XS.of (own := RX9) (by decide) rfl (rk := 1) rfl (tM_columnOf) (fun vs h r hr => ?_)
  unfold FM_columnOf at hr
  split at hr
  · exact ⟨rfl, Nat.le_of_ble_eq_true rfl, hr⟩
  · cases hr
-- LineDiagramModel.rowOf(II)I
def rM_rowOf : List (Nat × XRow) := [(0, (.iload_n 0, 1, 0, .null, [])),
  (1, (.bipush 40, 3, 0, .int (40 : Int32), [])),
  (3, (.idiv, 4, 0, .null, [])),
  (4, (.istore_n 2, 5, 2, .null, [])),
  (5, (.iload_n 1, 6, 1, .null, [])),
  (6, (.iconst 2, 7, 0, .int (2 : Int32), [])),
  (7, (.if_icmp .ge 7, 10, 14, .null, [])),
  (10, (.iload_n 2, 11, 2, .null, [])),
  (11, (.goto 18, 14, 29, .null, [])),
  (14, (.iload_n 1, 15, 1, .null, [])),
  (15, (.iconst 2, 16, 0, .int (2 : Int32), [])),
  (16, (.irem, 17, 0, .null, [])),
  (17, (.ifCond .ne 9, 20, 26, .null, [])),
  (20, (.iload_n 2, 21, 2, .null, [])),
  (21, (.iconst 1, 22, 0, .int (1 : Int32), [])),
  (22, (.isub, 23, 0, .null, [])),
  (23, (.goto 6, 26, 29, .null, [])),
  (26, (.iload_n 2, 27, 2, .null, [])),
  (27, (.iconst 1, 28, 0, .int (1 : Int32), [])),
  (28, (.iadd, 29, 0, .null, [])),
  (29, (.ireturn, 30, 0, .null, []))]
def mM_rowOf : List (Nat × XM) := []
abbrev BM_rowOf : XB := (rM_rowOf, XFT_M, mM_rowOf, 1, XST_M)
set_option maxRecDepth 100000 in
theorem kM_rowOf : XOK BM_rowOf cX9_rowOf 3 RX9 0 0 := xok_of (cps := []) (K := XKT_M) (by decide +kernel) XKT_M_ok (fun _ h => absurd h List.not_mem_nil) XFT_M_ok (fun _ h => absurd h List.not_mem_nil) XST_M_ok
def wM_rowOf (f : Int32 → Int32 → XH → XR) : List Value → List Value → XH → XR := fun vs st h => match vs, st with
  | [.int x0, .int x1], [] => f x0 x1 h
  | _, _ => none
set_option maxRecDepth 100000 in
theorem eM_rowOf (x0 : Int32) (x1 : Int32) (h : XH) : qM_rowOf x0 x1 h = xrun BM_rowOf (xfind []) 24 0 (List.zip [0, 1] [.int x0, .int x1]) [] h := rfl
theorem tM_rowOf : XTo cX9_rowOf 3 RX9 1 0 0 0 [0, 1] (wM_rowOf (qM_rowOf)) := by
  refine XTo.run (B := BM_rowOf) (cut := xfind []) kM_rowOf (xcuts_ok (fun _ h => absurd h List.not_mem_nil)) 24 (fun vs st h r hr => ?_)
  unfold wM_rowOf at hr
  split at hr
  · exact (eM_rowOf _ _ _).symm.trans hr
  · cases hr
def FM_rowOf : List Value → XH → XR := fun vs h => match vs with
  | [.int x0, .int x1] => qM_rowOf x0 x1 h
  | _ => none
theorem SM_rowOf : XS yX9_rowOf cX9_rowOf 3 (some .int) (xrm 0 0) FM_rowOf := by
  refine XS.of (own := RX9) (by decide) rfl (rk := 1) rfl (tM_rowOf) (fun vs h r hr => ?_)
  unfold FM_rowOf at hr
  split at hr
  · exact ⟨rfl, Nat.le_of_ble_eq_true rfl, hr⟩
  · cases hr
-- LineDiagramModel.laysLabel(III)V
def rM_laysLabel : List (Nat × XRow) := [(0, (.aload_n 0, 1, 0, .null, [])),
  (1, (.iload_n 1, 2, 1, .null, [])),
  (2, (.iload_n 2, 3, 2, .null, [])),
  (3, (.invokevirtual 165, 6, 165, .null, [])),
  (6, (.iload_n 1, 7, 1, .null, [])),
  (7, (.iload_n 2, 8, 2, .null, [])),
  (8, (.invokestatic 168, 11, 168, .null, [])),
  (11, (.invokestatic 145, 14, 145, .null, [])),
  (14, (.istore 4, 16, 4, .null, [])),
  (16, (.iconst 0, 17, 0, .int (0 : Int32), [])),
  (17, (.istore 5, 19, 5, .null, [])),
  (19, (.iload 5, 21, 5, .null, [])),
  (21, (.aload_n 0, 22, 0, .null, [])),
  (22, (.getfield 55, 25, 55, .null, [])),
  (25, (.iload_n 1, 26, 1, .null, [])),
  (26, (.iaload, 27, 0, .null, [])),
  (27, (.if_icmp .ge 20, 30, 47, .null, [])),
  (30, (.aload_n 0, 31, 0, .null, [])),
  (31, (.getfield 58, 34, 58, .null, [])),
  (34, (.iload 4, 36, 4, .null, [])),
  (36, (.iload 5, 38, 5, .null, [])),
  (38, (.iadd, 39, 0, .null, [])),
  (39, (.iload_n 3, 40, 3, .null, [])),
  (40, (.iastore, 41, 0, .null, [])),
  (41, (.iinc 5 1, 44, 5, .int (1 : Int32), [])),
  (44, (.goto (-25), 47, 19, .null, [])),
  (47, (.return_, 48, 0, .null, []))]
def mM_laysLabel : List (Nat × XM) := [(145, (2, 1, none, FM_cell)), (165, (3, 1, some 9, FM_columnOf)), (168, (2, 1, none, FM_rowOf))]
abbrev BM_laysLabel : XB := (rM_laysLabel, XFT_M, mM_laysLabel, 0, XST_M)
set_option maxRecDepth 100000 in
theorem kM_laysLabel : XOK BM_laysLabel cX9_laysLabel 6 RX9 1 23 := xok_of (cps := []) (K := XKT_M) (by decide +kernel) XKT_M_ok (fun _ h => absurd h List.not_mem_nil) XFT_M_ok (List.forall_mem_cons.mpr ⟨⟨_, _, _, _, _, _, SM_cell, Nat.le_of_ble_eq_true rfl, Nat.le_of_ble_eq_true rfl, cdM_cell, lkM_145, imM_cell, inM_cell, pmM_cell⟩, List.forall_mem_cons.mpr ⟨⟨_, _, _, _, _, _, _, SM_columnOf, rfl, rfl, Nat.le_of_ble_eq_true rfl, Nat.le_of_ble_eq_true rfl, cdM_columnOf, lkM_165, imM_columnOf, slM_columnOf, inM_columnOf, pmM_columnOf⟩, List.forall_mem_cons.mpr ⟨⟨_, _, _, _, _, _, SM_rowOf, Nat.le_of_ble_eq_true rfl, Nat.le_of_ble_eq_true rfl, cdM_rowOf, lkM_168, imM_rowOf, inM_rowOf, pmM_rowOf⟩, fun _ h => absurd h List.not_mem_nil⟩⟩⟩) XST_M_ok
def wM_laysLabel_19 (f : Nat → Int32 → Int32 → Int32 → Int32 → XH → XR) : List Value → List Value → XH → XR := fun vs st h => match vs, st with
  | [.ref a0, .int x1, .int x3, .int x4, .int x5], [] => f a0 x1 x3 x4 x5 h
  | _, _ => none
def wM_laysLabel (f : Nat → Int32 → Int32 → Int32 → XH → XR) : List Value → List Value → XH → XR := fun vs st h => match vs, st with
  | [.ref a0, .int x1, .int x2, .int x3], [] => f a0 x1 x2 x3 h
  | _, _ => none
set_option maxRecDepth 100000 in
theorem eM_laysLabel_19_b (k19 : Nat → Int32 → Int32 → Int32 → Int32 → XH → XR) (a0 : Nat) (x1 : Int32) (x3 : Int32) (x4 : Int32) (x5 : Int32) (h : XH) : qM_laysLabel_19_b k19 a0 x1 x3 x4 x5 h = xrun BM_laysLabel (xfind [(19, ([0, 1, 3, 4, 5], wM_laysLabel_19 (k19)))]) 30 19 (List.zip [0, 1, 3, 4, 5] [.ref a0, .int x1, .int x3, .int x4, .int x5]) [] h := rfl
theorem tM_laysLabel_19_b {k19 : Nat → Int32 → Int32 → Int32 → Int32 → XH → XR} (hk19 : XTo cX9_laysLabel 6 RX9 0 1 23 19 [0, 1, 3, 4, 5] (wM_laysLabel_19 k19)) : XTo cX9_laysLabel 6 RX9 0 1 23 19 [0, 1, 3, 4, 5] (wM_laysLabel_19 (qM_laysLabel_19_b k19)) := by
  refine XTo.run (B := BM_laysLabel) (cut := xfind [(19, ([0, 1, 3, 4, 5], wM_laysLabel_19 (k19)))]) kM_laysLabel (xcuts_ok (List.forall_mem_cons.mpr ⟨hk19, fun _ h => absurd h List.not_mem_nil⟩)) 30 (fun vs st h r hr => ?_)
  unfold wM_laysLabel_19 at hr
  split at hr
  · exact (eM_laysLabel_19_b k19 _ _ _ _ _ _).symm.trans hr
  · cases hr
theorem tM_laysLabel_19 : ∀ n : Nat, XTo cX9_laysLabel 6 RX9 0 1 23 19 [0, 1, 3, 4, 5] (wM_laysLabel_19 (qM_laysLabel_19 n)) := by
  intro n
  induction n with
  | zero =>
    refine XTo.none fun vs st h => ?_
    unfold wM_laysLabel_19
    split <;> rfl
  | succ n ih => exact tM_laysLabel_19_b  ih
set_option maxRecDepth 100000 in
theorem eM_laysLabel (a0 : Nat) (x1 : Int32) (x2 : Int32) (x3 : Int32) (h : XH) : qM_laysLabel a0 x1 x2 x3 h = xrun BM_laysLabel (xfind [(19, ([0, 1, 3, 4, 5], wM_laysLabel_19 (qM_laysLabel_19 LF)))]) 30 0 (List.zip [0, 1, 2, 3] [.ref a0, .int x1, .int x2, .int x3]) [] h := rfl
theorem tM_laysLabel : XTo cX9_laysLabel 6 RX9 0 1 23 0 [0, 1, 2, 3] (wM_laysLabel (qM_laysLabel)) := by
  refine XTo.run (B := BM_laysLabel) (cut := xfind [(19, ([0, 1, 3, 4, 5], wM_laysLabel_19 (qM_laysLabel_19 LF)))]) kM_laysLabel (xcuts_ok (List.forall_mem_cons.mpr ⟨tM_laysLabel_19 LF, fun _ h => absurd h List.not_mem_nil⟩)) 30 (fun vs st h r hr => ?_)
  unfold wM_laysLabel at hr
  split at hr
  · exact (eM_laysLabel _ _ _ _ _).symm.trans hr
  · cases hr
def FM_laysLabel : List Value → XH → XR := fun vs h => match vs with
  | [.ref a0, .int x1, .int x2, .int x3] => qM_laysLabel a0 x1 x2 x3 h
  | _ => none
theorem SM_laysLabel : XS yX9_laysLabel cX9_laysLabel 6 none (xrm 1 23) FM_laysLabel := by
  refine XS.of (own := RX9) (by decide) rfl (rk := 0) rfl (tM_laysLabel) (fun vs h r hr => ?_)
  unfold FM_laysLabel at hr
  split at hr
  · exact ⟨rfl, Nat.le_of_ble_eq_true rfl, hr⟩
  · cases hr
-- LineDiagramModel.labelOf(I)I
def rM_labelOf : List (Nat × XRow) := [(0, (.aload_n 0, 1, 0, .null, [])),
  (1, (.getfield 21, 4, 21, .null, [])),
  (4, (.sipush 184, 7, 0, .int (184 : Int32), [])),
  (7, (.iload_n 1, 8, 1, .null, [])),
  (8, (.iadd, 9, 0, .null, [])),
  (9, (.iaload, 10, 0, .null, [])),
  (10, (.ireturn, 11, 0, .null, []))]
def mM_labelOf : List (Nat × XM) := []
abbrev BM_labelOf : XB := (rM_labelOf, XFT_M, mM_labelOf, 1, XST_M)
set_option maxRecDepth 100000 in
theorem kM_labelOf : XOK BM_labelOf cX9_labelOf 2 RX9 0 0 := xok_of (cps := []) (K := XKT_M) (by decide +kernel) XKT_M_ok (fun _ h => absurd h List.not_mem_nil) XFT_M_ok (fun _ h => absurd h List.not_mem_nil) XST_M_ok
def wM_labelOf (f : Nat → Int32 → XH → XR) : List Value → List Value → XH → XR := fun vs st h => match vs, st with
  | [.ref a0, .int x1], [] => f a0 x1 h
  | _, _ => none
set_option maxRecDepth 100000 in
theorem eM_labelOf (a0 : Nat) (x1 : Int32) (h : XH) : qM_labelOf a0 x1 h = xrun BM_labelOf (xfind []) 10 0 (List.zip [0, 1] [.ref a0, .int x1]) [] h := rfl
theorem tM_labelOf : XTo cX9_labelOf 2 RX9 1 0 0 0 [0, 1] (wM_labelOf (qM_labelOf)) := by
  refine XTo.run (B := BM_labelOf) (cut := xfind []) kM_labelOf (xcuts_ok (fun _ h => absurd h List.not_mem_nil)) 10 (fun vs st h r hr => ?_)
  unfold wM_labelOf at hr
  split at hr
  · exact (eM_labelOf _ _ _).symm.trans hr
  · cases hr
def FM_labelOf : List Value → XH → XR := fun vs h => match vs with
  | [.ref a0, .int x1] => qM_labelOf a0 x1 h
  | _ => none
theorem SM_labelOf : XS yX9_labelOf cX9_labelOf 2 (some .int) (xrm 0 0) FM_labelOf := by
  refine XS.of (own := RX9) (by decide) rfl (rk := 1) rfl (tM_labelOf) (fun vs h r hr => ?_)
  unfold FM_labelOf at hr
  split at hr
  · exact ⟨rfl, Nat.le_of_ble_eq_true rfl, hr⟩
  · cases hr
-- LineDiagramModel.laysRun(II)V
def rM_laysRun : List (Nat × XRow) := [(0, (.aload_n 0, 1, 0, .null, [])),
  (1, (.iload_n 1, 2, 1, .null, [])),
  (2, (.iload_n 2, 3, 2, .null, [])),
  (3, (.invokevirtual 130, 6, 130, .null, [])),
  (6, (.istore_n 3, 7, 3, .null, [])),
  (7, (.aload_n 0, 8, 0, .null, [])),
  (8, (.getfield 40, 11, 40, .null, [])),
  (11, (.sipush 400, 14, 0, .int (400 : Int32), [])),
  (14, (.iload_n 1, 15, 1, .null, [])),
  (15, (.imul, 16, 0, .null, [])),
  (16, (.aload_n 0, 17, 0, .null, [])),
  (17, (.getfield 37, 20, 37, .null, [])),
  (20, (.iload_n 1, 21, 1, .null, [])),
  (21, (.iaload, 22, 0, .null, [])),
  (22, (.iadd, 23, 0, .null, [])),
  (23, (.iaload, 24, 0, .null, [])),
  (24, (.istore 4, 26, 4, .null, [])),
  (26, (.aload_n 0, 27, 0, .null, [])),
  (27, (.iload_n 1, 28, 1, .null, [])),
  (28, (.iload_n 2, 29, 2, .null, [])),
  (29, (.invokevirtual 136, 32, 136, .null, [])),
  (32, (.istore 5, 34, 5, .null, [])),
  (34, (.iload 5, 36, 5, .null, [])),
  (36, (.ifCond .le 100, 39, 136, .null, [])),
  (39, (.iload 4, 41, 4, .null, [])),
  (41, (.iload_n 3, 42, 3, .null, [])),
  (42, (.invokestatic 111, 45, 111, .null, [])),
  (45, (.iload_n 3, 46, 3, .null, [])),
  (46, (.invokestatic 117, 49, 117, .null, [])),
  (49, (.invokestatic 145, 52, 145, .null, [])),
  (52, (.iadd, 53, 0, .null, [])),
  (53, (.istore 6, 55, 6, .null, [])),
  (55, (.aload_n 0, 56, 0, .null, [])),
  (56, (.getfield 46, 59, 46, .null, [])),
  (59, (.iconst 4, 60, 0, .int (4 : Int32), [])),
  (60, (.iload_n 3, 61, 3, .null, [])),
  (61, (.iconst 4, 62, 0, .int (4 : Int32), [])),
  (62, (.if_icmp .ge 8, 65, 70, .null, [])),
  (65, (.iload 4, 67, 4, .null, [])),
  (67, (.goto 5, 70, 72, .null, [])),
  (70, (.iload 6, 72, 6, .null, [])),
  (72, (.imul, 73, 0, .null, [])),
  (73, (.iload_n 3, 74, 3, .null, [])),
  (74, (.iconst 4, 75, 0, .int (4 : Int32), [])),
  (75, (.irem, 76, 0, .null, [])),
  (76, (.iadd, 77, 0, .null, [])),
  (77, (.dup2, 78, 0, .null, [])),
  (78, (.iaload, 79, 0, .null, [])),
  (79, (.iconst 1, 80, 0, .int (1 : Int32), [])),
  (80, (.iload_n 1, 81, 1, .null, [])),
  (81, (.ishl, 82, 0, .null, [])),
  (82, (.ior, 83, 0, .null, [])),
  (83, (.iastore, 84, 0, .null, [])),
  (84, (.aload_n 0, 85, 0, .null, [])),
  (85, (.getfield 37, 88, 37, .null, [])),
  (88, (.iload_n 1, 89, 1, .null, [])),
  (89, (.dup2, 90, 0, .null, [])),
  (90, (.iaload, 91, 0, .null, [])),
  (91, (.iconst 1, 92, 0, .int (1 : Int32), [])),
  (92, (.iadd, 93, 0, .null, [])),
  (93, (.iastore, 94, 0, .null, [])),
  (94, (.aload_n 0, 95, 0, .null, [])),
  (95, (.getfield 40, 98, 40, .null, [])),
  (98, (.sipush 400, 101, 0, .int (400 : Int32), [])),
  (101, (.iload_n 1, 102, 1, .null, [])),
  (102, (.imul, 103, 0, .null, [])),
  (103, (.aload_n 0, 104, 0, .null, [])),
  (104, (.getfield 37, 107, 37, .null, [])),
  (107, (.iload_n 1, 108, 1, .null, [])),
  (108, (.iaload, 109, 0, .null, [])),
  (109, (.iadd, 110, 0, .null, [])),
  (110, (.iload 6, 112, 6, .null, [])),
  (112, (.iastore, 113, 0, .null, [])),
  (113, (.aload_n 0, 114, 0, .null, [])),
  (114, (.getfield 43, 117, 43, .null, [])),
  (117, (.iload 6, 119, 6, .null, [])),
  (119, (.dup2, 120, 0, .null, [])),
  (120, (.iaload, 121, 0, .null, [])),
  (121, (.iconst 1, 122, 0, .int (1 : Int32), [])),
  (122, (.iload_n 1, 123, 1, .null, [])),
  (123, (.ishl, 124, 0, .null, [])),
  (124, (.ior, 125, 0, .null, [])),
  (125, (.iastore, 126, 0, .null, [])),
  (126, (.iload 6, 128, 6, .null, [])),
  (128, (.istore 4, 130, 4, .null, [])),
  (130, (.iinc 5 (-1), 133, 5, .int (-1 : Int32), [])),
  (133, (.goto (-99), 136, 34, .null, [])),
  (136, (.return_, 137, 0, .null, []))]
def mM_laysRun : List (Nat × XM) := [(111, (1, 1, none, FM_dx)), (117, (1, 1, none, FM_dy)), (130, (3, 1, some 9, FM_wayOf)), (136, (3, 1, some 9, FM_stepsOf)), (145, (2, 1, none, FM_cell))]
abbrev BM_laysRun : XB := (rM_laysRun, XFT_M, mM_laysRun, 0, XST_M)
set_option maxRecDepth 100000 in
theorem kM_laysRun : XOK BM_laysRun cX9_laysRun 7 RX9 3 68 := xok_of (cps := []) (K := XKT_M) (by decide +kernel) XKT_M_ok (fun _ h => absurd h List.not_mem_nil) XFT_M_ok (List.forall_mem_cons.mpr ⟨⟨_, _, _, _, _, _, SM_dx, Nat.le_of_ble_eq_true rfl, Nat.le_of_ble_eq_true rfl, cdM_dx, lkM_111, imM_dx, inM_dx, pmM_dx⟩, List.forall_mem_cons.mpr ⟨⟨_, _, _, _, _, _, SM_dy, Nat.le_of_ble_eq_true rfl, Nat.le_of_ble_eq_true rfl, cdM_dy, lkM_117, imM_dy, inM_dy, pmM_dy⟩, List.forall_mem_cons.mpr ⟨⟨_, _, _, _, _, _, _, SM_wayOf, rfl, rfl, Nat.le_of_ble_eq_true rfl, Nat.le_of_ble_eq_true rfl, cdM_wayOf, lkM_130, imM_wayOf, slM_wayOf, inM_wayOf, pmM_wayOf⟩, List.forall_mem_cons.mpr ⟨⟨_, _, _, _, _, _, _, SM_stepsOf, rfl, rfl, Nat.le_of_ble_eq_true rfl, Nat.le_of_ble_eq_true rfl, cdM_stepsOf, lkM_136, imM_stepsOf, slM_stepsOf, inM_stepsOf, pmM_stepsOf⟩, List.forall_mem_cons.mpr ⟨⟨_, _, _, _, _, _, SM_cell, Nat.le_of_ble_eq_true rfl, Nat.le_of_ble_eq_true rfl, cdM_cell, lkM_145, imM_cell, inM_cell, pmM_cell⟩, fun _ h => absurd h List.not_mem_nil⟩⟩⟩⟩⟩) XST_M_ok
def wM_laysRun_72 (f : Nat → Int32 → Int32 → Int32 → Int32 → Int32 → Int32 → Nat → XH → XR) : List Value → List Value → XH → XR := fun vs st h => match vs, st with
  | [.ref a0, .int x1, .int x3, .int x5, .int x6], [.int s0, .int s1, .ref s2] => f a0 x1 x3 x5 x6 s0 s1 s2 h
  | _, _ => none
def wM_laysRun_34 (f : Nat → Int32 → Int32 → Int32 → Int32 → XH → XR) : List Value → List Value → XH → XR := fun vs st h => match vs, st with
  | [.ref a0, .int x1, .int x3, .int x4, .int x5], [] => f a0 x1 x3 x4 x5 h
  | _, _ => none
def wM_laysRun (f : Nat → Int32 → Int32 → XH → XR) : List Value → List Value → XH → XR := fun vs st h => match vs, st with
  | [.ref a0, .int x1, .int x2], [] => f a0 x1 x2 h
  | _, _ => none
set_option maxRecDepth 100000 in
theorem eM_laysRun_72 (k34 : Nat → Int32 → Int32 → Int32 → Int32 → XH → XR) (a0 : Nat) (x1 : Int32) (x3 : Int32) (x5 : Int32) (x6 : Int32) (s0 : Int32) (s1 : Int32) (s2 : Nat) (h : XH) : qM_laysRun_72 k34 a0 x1 x3 x5 x6 s0 s1 s2 h = xrun BM_laysRun (xfind [(34, ([0, 1, 3, 4, 5], wM_laysRun_34 (k34)))]) 91 72 (List.zip [0, 1, 3, 5, 6] [.ref a0, .int x1, .int x3, .int x5, .int x6]) [.int s0, .int s1, .ref s2] h := rfl
theorem tM_laysRun_72 {k34 : Nat → Int32 → Int32 → Int32 → Int32 → XH → XR} (hk34 : XTo cX9_laysRun 7 RX9 0 3 68 34 [0, 1, 3, 4, 5] (wM_laysRun_34 k34)) : XTo cX9_laysRun 7 RX9 0 3 68 72 [0, 1, 3, 5, 6] (wM_laysRun_72 (qM_laysRun_72 k34)) := by
  refine XTo.run (B := BM_laysRun) (cut := xfind [(34, ([0, 1, 3, 4, 5], wM_laysRun_34 (k34)))]) kM_laysRun (xcuts_ok (List.forall_mem_cons.mpr ⟨hk34, fun _ h => absurd h List.not_mem_nil⟩)) 91 (fun vs st h r hr => ?_)
  unfold wM_laysRun_72 at hr
  split at hr
  · exact (eM_laysRun_72 k34 _ _ _ _ _ _ _ _ _).symm.trans hr
  · cases hr
set_option maxRecDepth 100000 in
theorem eM_laysRun_34_b (k34 : Nat → Int32 → Int32 → Int32 → Int32 → XH → XR) (a0 : Nat) (x1 : Int32) (x3 : Int32) (x4 : Int32) (x5 : Int32) (h : XH) : qM_laysRun_34_b k34 a0 x1 x3 x4 x5 h = xrun BM_laysRun (xfind [(72, ([0, 1, 3, 5, 6], wM_laysRun_72 (qM_laysRun_72 k34)))]) 91 34 (List.zip [0, 1, 3, 4, 5] [.ref a0, .int x1, .int x3, .int x4, .int x5]) [] h := rfl
theorem tM_laysRun_34_b {k34 : Nat → Int32 → Int32 → Int32 → Int32 → XH → XR} (hk34 : XTo cX9_laysRun 7 RX9 0 3 68 34 [0, 1, 3, 4, 5] (wM_laysRun_34 k34)) : XTo cX9_laysRun 7 RX9 0 3 68 34 [0, 1, 3, 4, 5] (wM_laysRun_34 (qM_laysRun_34_b k34)) := by
  refine XTo.run (B := BM_laysRun) (cut := xfind [(72, ([0, 1, 3, 5, 6], wM_laysRun_72 (qM_laysRun_72 k34)))]) kM_laysRun (xcuts_ok (List.forall_mem_cons.mpr ⟨tM_laysRun_72 hk34, fun _ h => absurd h List.not_mem_nil⟩)) 91 (fun vs st h r hr => ?_)
  unfold wM_laysRun_34 at hr
  split at hr
  · exact (eM_laysRun_34_b k34 _ _ _ _ _ _).symm.trans hr
  · cases hr
theorem tM_laysRun_34 : ∀ n : Nat, XTo cX9_laysRun 7 RX9 0 3 68 34 [0, 1, 3, 4, 5] (wM_laysRun_34 (qM_laysRun_34 n)) := by
  intro n
  induction n with
  | zero =>
    refine XTo.none fun vs st h => ?_
    unfold wM_laysRun_34
    split <;> rfl
  | succ n ih => exact tM_laysRun_34_b  ih
set_option maxRecDepth 100000 in
theorem eM_laysRun (a0 : Nat) (x1 : Int32) (x2 : Int32) (h : XH) : qM_laysRun a0 x1 x2 h = xrun BM_laysRun (xfind [(34, ([0, 1, 3, 4, 5], wM_laysRun_34 (qM_laysRun_34 LF)))]) 91 0 (List.zip [0, 1, 2] [.ref a0, .int x1, .int x2]) [] h := rfl
theorem tM_laysRun : XTo cX9_laysRun 7 RX9 0 3 68 0 [0, 1, 2] (wM_laysRun (qM_laysRun)) := by
  refine XTo.run (B := BM_laysRun) (cut := xfind [(34, ([0, 1, 3, 4, 5], wM_laysRun_34 (qM_laysRun_34 LF)))]) kM_laysRun (xcuts_ok (List.forall_mem_cons.mpr ⟨tM_laysRun_34 LF, fun _ h => absurd h List.not_mem_nil⟩)) 91 (fun vs st h r hr => ?_)
  unfold wM_laysRun at hr
  split at hr
  · exact (eM_laysRun _ _ _ _).symm.trans hr
  · cases hr
def FM_laysRun : List Value → XH → XR := fun vs h => match vs with
  | [.ref a0, .int x1, .int x2] => qM_laysRun a0 x1 x2 h
  | _ => none
theorem SM_laysRun : XS yX9_laysRun cX9_laysRun 7 none (xrm 3 68) FM_laysRun := by
  refine XS.of (own := RX9) (by decide) rfl (rk := 0) rfl (tM_laysRun) (fun vs h r hr => ?_)
  unfold FM_laysRun at hr
  split at hr
  · exact ⟨rfl, Nat.le_of_ble_eq_true rfl, hr⟩
  · cases hr
-- LineDiagramModel.stepsTo(II)I
def rM_stepsTo : List (Nat × XRow) := [(0, (.iload_n 2, 1, 2, .null, [])),
  (1, (.aload_n 0, 2, 0, .null, [])),
  (2, (.getfield 37, 5, 37, .null, [])),
  (5, (.iload_n 1, 6, 1, .null, [])),
  (6, (.iaload, 7, 0, .null, [])),
  (7, (.imul, 8, 0, .null, [])),
  (8, (.aload_n 0, 9, 0, .null, [])),
  (9, (.iload_n 1, 10, 1, .null, [])),
  (10, (.iconst 1, 11, 0, .int (1 : Int32), [])),
  (11, (.invokevirtual 88, 14, 88, .null, [])),
  (14, (.iconst 1, 15, 0, .int (1 : Int32), [])),
  (15, (.isub, 16, 0, .null, [])),
  (16, (.idiv, 17, 0, .null, [])),
  (17, (.ireturn, 18, 0, .null, []))]
def mM_stepsTo : List (Nat × XM) := [(88, (3, 1, some 9, FM_of))]
abbrev BM_stepsTo : XB := (rM_stepsTo, XFT_M, mM_stepsTo, 1, XST_M)
set_option maxRecDepth 100000 in
theorem kM_stepsTo : XOK BM_stepsTo cX9_stepsTo 3 RX9 1 22 := xok_of (cps := []) (K := XKT_M) (by decide +kernel) XKT_M_ok (fun _ h => absurd h List.not_mem_nil) XFT_M_ok (List.forall_mem_cons.mpr ⟨⟨_, _, _, _, _, _, _, SM_of, rfl, rfl, Nat.le_of_ble_eq_true rfl, Nat.le_of_ble_eq_true rfl, cdM_of, lkM_88, imM_of, slM_of, inM_of, pmM_of⟩, fun _ h => absurd h List.not_mem_nil⟩) XST_M_ok
def wM_stepsTo (f : Nat → Int32 → Int32 → XH → XR) : List Value → List Value → XH → XR := fun vs st h => match vs, st with
  | [.ref a0, .int x1, .int x2], [] => f a0 x1 x2 h
  | _, _ => none
set_option maxRecDepth 100000 in
theorem eM_stepsTo (a0 : Nat) (x1 : Int32) (x2 : Int32) (h : XH) : qM_stepsTo a0 x1 x2 h = xrun BM_stepsTo (xfind []) 17 0 (List.zip [0, 1, 2] [.ref a0, .int x1, .int x2]) [] h := rfl
theorem tM_stepsTo : XTo cX9_stepsTo 3 RX9 1 1 22 0 [0, 1, 2] (wM_stepsTo (qM_stepsTo)) := by
  refine XTo.run (B := BM_stepsTo) (cut := xfind []) kM_stepsTo (xcuts_ok (fun _ h => absurd h List.not_mem_nil)) 17 (fun vs st h r hr => ?_)
  unfold wM_stepsTo at hr
  split at hr
  · exact (eM_stepsTo _ _ _ _).symm.trans hr
  · cases hr
def FM_stepsTo : List Value → XH → XR := fun vs h => match vs with
  | [.ref a0, .int x1, .int x2] => qM_stepsTo a0 x1 x2 h
  | _ => none
theorem SM_stepsTo : XS yX9_stepsTo cX9_stepsTo 3 (some .int) (xrm 1 22) FM_stepsTo := by
  refine XS.of (own := RX9) (by decide) rfl (rk := 1) rfl (tM_stepsTo) (fun vs h r hr => ?_)
  unfold FM_stepsTo at hr
  split at hr
  · exact ⟨rfl, Nat.le_of_ble_eq_true rfl, hr⟩
  · cases hr
-- LineDiagramModel.cellOf(II)I
def rM_cellOf : List (Nat × XRow) := [(0, (.aload_n 0, 1, 0, .null, [])),
  (1, (.getfield 40, 4, 40, .null, [])),
  (4, (.sipush 400, 7, 0, .int (400 : Int32), [])),
  (7, (.iload_n 1, 8, 1, .null, [])),
  (8, (.imul, 9, 0, .null, [])),
  (9, (.aload_n 0, 10, 0, .null, [])),
  (10, (.iload_n 1, 11, 1, .null, [])),
  (11, (.iload_n 2, 12, 2, .null, [])),
  (12, (.invokevirtual 148, 15, 148, .null, [])),
  (15, (.iadd, 16, 0, .null, [])),
  (16, (.iaload, 17, 0, .null, [])),
  (17, (.ireturn, 18, 0, .null, []))]
def mM_cellOf : List (Nat × XM) := [(148, (3, 1, some 9, FM_stepsTo))]
abbrev BM_cellOf : XB := (rM_cellOf, XFT_M, mM_cellOf, 1, XST_M)
set_option maxRecDepth 100000 in
theorem kM_cellOf : XOK BM_cellOf cX9_cellOf 3 RX9 2 44 := xok_of (cps := []) (K := XKT_M) (by decide +kernel) XKT_M_ok (fun _ h => absurd h List.not_mem_nil) XFT_M_ok (List.forall_mem_cons.mpr ⟨⟨_, _, _, _, _, _, _, SM_stepsTo, rfl, rfl, Nat.le_of_ble_eq_true rfl, Nat.le_of_ble_eq_true rfl, cdM_stepsTo, lkM_148, imM_stepsTo, slM_stepsTo, inM_stepsTo, pmM_stepsTo⟩, fun _ h => absurd h List.not_mem_nil⟩) XST_M_ok
def wM_cellOf (f : Nat → Int32 → Int32 → XH → XR) : List Value → List Value → XH → XR := fun vs st h => match vs, st with
  | [.ref a0, .int x1, .int x2], [] => f a0 x1 x2 h
  | _, _ => none
set_option maxRecDepth 100000 in
theorem eM_cellOf (a0 : Nat) (x1 : Int32) (x2 : Int32) (h : XH) : qM_cellOf a0 x1 x2 h = xrun BM_cellOf (xfind []) 15 0 (List.zip [0, 1, 2] [.ref a0, .int x1, .int x2]) [] h := rfl
theorem tM_cellOf : XTo cX9_cellOf 3 RX9 1 2 44 0 [0, 1, 2] (wM_cellOf (qM_cellOf)) := by
  refine XTo.run (B := BM_cellOf) (cut := xfind []) kM_cellOf (xcuts_ok (fun _ h => absurd h List.not_mem_nil)) 15 (fun vs st h r hr => ?_)
  unfold wM_cellOf at hr
  split at hr
  · exact (eM_cellOf _ _ _ _).symm.trans hr
  · cases hr
def FM_cellOf : List Value → XH → XR := fun vs h => match vs with
  | [.ref a0, .int x1, .int x2] => qM_cellOf a0 x1 x2 h
  | _ => none
theorem SM_cellOf : XS yX9_cellOf cX9_cellOf 3 (some .int) (xrm 2 44) FM_cellOf := by
  refine XS.of (own := RX9) (by decide) rfl (rk := 1) rfl (tM_cellOf) (fun vs h r hr => ?_)
  unfold FM_cellOf at hr
  split at hr
  · exact ⟨rfl, Nat.le_of_ble_eq_true rfl, hr⟩
  · cases hr
-- LineDiagramModel.longOfStation(II)I
def rM_longOfStation : List (Nat × XRow) := [(0, (.aload_n 0, 1, 0, .null, [])),
  (1, (.iload_n 1, 2, 1, .null, [])),
  (2, (.iconst 0, 3, 0, .int (0 : Int32), [])),
  (3, (.invokevirtual 88, 6, 88, .null, [])),
  (6, (.iload_n 2, 7, 2, .null, [])),
  (7, (.iconst 3, 8, 0, .int (3 : Int32), [])),
  (8, (.irem, 9, 0, .null, [])),
  (9, (.iadd, 10, 0, .null, [])),
  (10, (.ireturn, 11, 0, .null, []))]
def mM_longOfStation : List (Nat × XM) := [(88, (3, 1, some 9, FM_of))]
abbrev BM_longOfStation : XB := (rM_longOfStation, XFT_M, mM_longOfStation, 1, XST_M)
set_option maxRecDepth 100000 in
theorem kM_longOfStation : XOK BM_longOfStation cX9_longOfStation 3 RX9 1 22 := xok_of (cps := []) (K := XKT_M) (by decide +kernel) XKT_M_ok (fun _ h => absurd h List.not_mem_nil) XFT_M_ok (List.forall_mem_cons.mpr ⟨⟨_, _, _, _, _, _, _, SM_of, rfl, rfl, Nat.le_of_ble_eq_true rfl, Nat.le_of_ble_eq_true rfl, cdM_of, lkM_88, imM_of, slM_of, inM_of, pmM_of⟩, fun _ h => absurd h List.not_mem_nil⟩) XST_M_ok
def wM_longOfStation (f : Nat → Int32 → Int32 → XH → XR) : List Value → List Value → XH → XR := fun vs st h => match vs, st with
  | [.ref a0, .int x1, .int x2], [] => f a0 x1 x2 h
  | _, _ => none
set_option maxRecDepth 100000 in
theorem eM_longOfStation (a0 : Nat) (x1 : Int32) (x2 : Int32) (h : XH) : qM_longOfStation a0 x1 x2 h = xrun BM_longOfStation (xfind []) 12 0 (List.zip [0, 1, 2] [.ref a0, .int x1, .int x2]) [] h := rfl
theorem tM_longOfStation : XTo cX9_longOfStation 3 RX9 1 1 22 0 [0, 1, 2] (wM_longOfStation (qM_longOfStation)) := by
  refine XTo.run (B := BM_longOfStation) (cut := xfind []) kM_longOfStation (xcuts_ok (fun _ h => absurd h List.not_mem_nil)) 12 (fun vs st h r hr => ?_)
  unfold wM_longOfStation at hr
  split at hr
  · exact (eM_longOfStation _ _ _ _).symm.trans hr
  · cases hr
def FM_longOfStation : List Value → XH → XR := fun vs h => match vs with
  | [.ref a0, .int x1, .int x2] => qM_longOfStation a0 x1 x2 h
  | _ => none
theorem SM_longOfStation : XS yX9_longOfStation cX9_longOfStation 3 (some .int) (xrm 1 22) FM_longOfStation := by
  refine XS.of (own := RX9) (by decide) rfl (rk := 1) rfl (tM_longOfStation) (fun vs h r hr => ?_)
  unfold FM_longOfStation at hr
  split at hr
  · exact ⟨rfl, Nat.le_of_ble_eq_true rfl, hr⟩
  · cases hr
-- LineDiagramModel.laysStations(I)V
def rM_laysStations : List (Nat × XRow) := [(0, (.iconst 0, 1, 0, .int (0 : Int32), [])),
  (1, (.istore_n 2, 2, 2, .null, [])),
  (2, (.iload_n 2, 3, 2, .null, [])),
  (3, (.aload_n 0, 4, 0, .null, [])),
  (4, (.iload_n 1, 5, 1, .null, [])),
  (5, (.iconst 1, 6, 0, .int (1 : Int32), [])),
  (6, (.invokevirtual 88, 9, 88, .null, [])),
  (9, (.if_icmp .ge 74, 12, 83, .null, [])),
  (12, (.aload_n 0, 13, 0, .null, [])),
  (13, (.iload_n 1, 14, 1, .null, [])),
  (14, (.iload_n 2, 15, 2, .null, [])),
  (15, (.invokevirtual 151, 18, 151, .null, [])),
  (18, (.istore_n 3, 19, 3, .null, [])),
  (19, (.aload_n 0, 20, 0, .null, [])),
  (20, (.iload_n 1, 21, 1, .null, [])),
  (21, (.iload_n 2, 22, 2, .null, [])),
  (22, (.invokevirtual 154, 25, 154, .null, [])),
  (25, (.istore 4, 27, 4, .null, [])),
  (27, (.aload_n 0, 28, 0, .null, [])),
  (28, (.getfield 49, 31, 49, .null, [])),
  (31, (.iload_n 3, 32, 3, .null, [])),
  (32, (.dup2, 33, 0, .null, [])),
  (33, (.iaload, 34, 0, .null, [])),
  (34, (.iconst 1, 35, 0, .int (1 : Int32), [])),
  (35, (.iadd, 36, 0, .null, [])),
  (36, (.iastore, 37, 0, .null, [])),
  (37, (.aload_n 0, 38, 0, .null, [])),
  (38, (.getfield 52, 41, 52, .null, [])),
  (41, (.iload_n 3, 42, 3, .null, [])),
  (42, (.dup2, 43, 0, .null, [])),
  (43, (.iaload, 44, 0, .null, [])),
  (44, (.iconst 1, 45, 0, .int (1 : Int32), [])),
  (45, (.iload_n 1, 46, 1, .null, [])),
  (46, (.ishl, 47, 0, .null, [])),
  (47, (.ior, 48, 0, .null, [])),
  (48, (.iastore, 49, 0, .null, [])),
  (49, (.aload_n 0, 50, 0, .null, [])),
  (50, (.getfield 55, 53, 55, .null, [])),
  (53, (.iload_n 3, 54, 3, .null, [])),
  (54, (.iload 4, 56, 4, .null, [])),
  (56, (.aload_n 0, 57, 0, .null, [])),
  (57, (.getfield 55, 60, 55, .null, [])),
  (60, (.iload_n 3, 61, 3, .null, [])),
  (61, (.iaload, 62, 0, .null, [])),
  (62, (.if_icmp .le 8, 65, 70, .null, [])),
  (65, (.iload 4, 67, 4, .null, [])),
  (67, (.goto 9, 70, 76, .null, [])),
  (70, (.aload_n 0, 71, 0, .null, [])),
  (71, (.getfield 55, 74, 55, .null, [])),
  (74, (.iload_n 3, 75, 3, .null, [])),
  (75, (.iaload, 76, 0, .null, [])),
  (76, (.iastore, 77, 0, .null, [])),
  (77, (.iinc 2 1, 80, 2, .int (1 : Int32), [])),
  (80, (.goto (-78), 83, 2, .null, [])),
  (83, (.return_, 84, 0, .null, []))]
def mM_laysStations : List (Nat × XM) := [(88, (3, 1, some 9, FM_of)), (151, (3, 1, some 9, FM_cellOf)), (154, (3, 1, some 9, FM_longOfStation))]
abbrev BM_laysStations : XB := (rM_laysStations, XFT_M, mM_laysStations, 0, XST_M)
set_option maxRecDepth 100000 in
theorem kM_laysStations : XOK BM_laysStations cX9_laysStations 5 RX9 3 66 := xok_of (cps := []) (K := XKT_M) (by decide +kernel) XKT_M_ok (fun _ h => absurd h List.not_mem_nil) XFT_M_ok (List.forall_mem_cons.mpr ⟨⟨_, _, _, _, _, _, _, SM_of, rfl, rfl, Nat.le_of_ble_eq_true rfl, Nat.le_of_ble_eq_true rfl, cdM_of, lkM_88, imM_of, slM_of, inM_of, pmM_of⟩, List.forall_mem_cons.mpr ⟨⟨_, _, _, _, _, _, _, SM_cellOf, rfl, rfl, Nat.le_of_ble_eq_true rfl, Nat.le_of_ble_eq_true rfl, cdM_cellOf, lkM_151, imM_cellOf, slM_cellOf, inM_cellOf, pmM_cellOf⟩, List.forall_mem_cons.mpr ⟨⟨_, _, _, _, _, _, _, SM_longOfStation, rfl, rfl, Nat.le_of_ble_eq_true rfl, Nat.le_of_ble_eq_true rfl, cdM_longOfStation, lkM_154, imM_longOfStation, slM_longOfStation, inM_longOfStation, pmM_longOfStation⟩, fun _ h => absurd h List.not_mem_nil⟩⟩⟩) XST_M_ok
def wM_laysStations_76 (f : Nat → Int32 → Int32 → Int32 → Int32 → Nat → XH → XR) : List Value → List Value → XH → XR := fun vs st h => match vs, st with
  | [.ref a0, .int x1, .int x2], [.int s0, .int s1, .ref s2] => f a0 x1 x2 s0 s1 s2 h
  | _, _ => none
def wM_laysStations_2 (f : Nat → Int32 → Int32 → XH → XR) : List Value → List Value → XH → XR := fun vs st h => match vs, st with
  | [.ref a0, .int x1, .int x2], [] => f a0 x1 x2 h
  | _, _ => none
def wM_laysStations (f : Nat → Int32 → XH → XR) : List Value → List Value → XH → XR := fun vs st h => match vs, st with
  | [.ref a0, .int x1], [] => f a0 x1 h
  | _, _ => none
set_option maxRecDepth 100000 in
theorem eM_laysStations_76 (k2 : Nat → Int32 → Int32 → XH → XR) (a0 : Nat) (x1 : Int32) (x2 : Int32) (s0 : Int32) (s1 : Int32) (s2 : Nat) (h : XH) : qM_laysStations_76 k2 a0 x1 x2 s0 s1 s2 h = xrun BM_laysStations (xfind [(2, ([0, 1, 2], wM_laysStations_2 (k2)))]) 58 76 (List.zip [0, 1, 2] [.ref a0, .int x1, .int x2]) [.int s0, .int s1, .ref s2] h := rfl
theorem tM_laysStations_76 {k2 : Nat → Int32 → Int32 → XH → XR} (hk2 : XTo cX9_laysStations 5 RX9 0 3 66 2 [0, 1, 2] (wM_laysStations_2 k2)) : XTo cX9_laysStations 5 RX9 0 3 66 76 [0, 1, 2] (wM_laysStations_76 (qM_laysStations_76 k2)) := by
  refine XTo.run (B := BM_laysStations) (cut := xfind [(2, ([0, 1, 2], wM_laysStations_2 (k2)))]) kM_laysStations (xcuts_ok (List.forall_mem_cons.mpr ⟨hk2, fun _ h => absurd h List.not_mem_nil⟩)) 58 (fun vs st h r hr => ?_)
  unfold wM_laysStations_76 at hr
  split at hr
  · exact (eM_laysStations_76 k2 _ _ _ _ _ _ _).symm.trans hr
  · cases hr
set_option maxRecDepth 100000 in
theorem eM_laysStations_2_b (k2 : Nat → Int32 → Int32 → XH → XR) (a0 : Nat) (x1 : Int32) (x2 : Int32) (h : XH) : qM_laysStations_2_b k2 a0 x1 x2 h = xrun BM_laysStations (xfind [(76, ([0, 1, 2], wM_laysStations_76 (qM_laysStations_76 k2)))]) 58 2 (List.zip [0, 1, 2] [.ref a0, .int x1, .int x2]) [] h := rfl
theorem tM_laysStations_2_b {k2 : Nat → Int32 → Int32 → XH → XR} (hk2 : XTo cX9_laysStations 5 RX9 0 3 66 2 [0, 1, 2] (wM_laysStations_2 k2)) : XTo cX9_laysStations 5 RX9 0 3 66 2 [0, 1, 2] (wM_laysStations_2 (qM_laysStations_2_b k2)) := by
  refine XTo.run (B := BM_laysStations) (cut := xfind [(76, ([0, 1, 2], wM_laysStations_76 (qM_laysStations_76 k2)))]) kM_laysStations (xcuts_ok (List.forall_mem_cons.mpr ⟨tM_laysStations_76 hk2, fun _ h => absurd h List.not_mem_nil⟩)) 58 (fun vs st h r hr => ?_)
  unfold wM_laysStations_2 at hr
  split at hr
  · exact (eM_laysStations_2_b k2 _ _ _ _).symm.trans hr
  · cases hr
theorem tM_laysStations_2 : ∀ n : Nat, XTo cX9_laysStations 5 RX9 0 3 66 2 [0, 1, 2] (wM_laysStations_2 (qM_laysStations_2 n)) := by
  intro n
  induction n with
  | zero =>
    refine XTo.none fun vs st h => ?_
    unfold wM_laysStations_2
    split <;> rfl
  | succ n ih => exact tM_laysStations_2_b  ih
set_option maxRecDepth 100000 in
theorem eM_laysStations (a0 : Nat) (x1 : Int32) (h : XH) : qM_laysStations a0 x1 h = xrun BM_laysStations (xfind [(2, ([0, 1, 2], wM_laysStations_2 (qM_laysStations_2 LF)))]) 58 0 (List.zip [0, 1] [.ref a0, .int x1]) [] h := rfl
theorem tM_laysStations : XTo cX9_laysStations 5 RX9 0 3 66 0 [0, 1] (wM_laysStations (qM_laysStations)) := by
  refine XTo.run (B := BM_laysStations) (cut := xfind [(2, ([0, 1, 2], wM_laysStations_2 (qM_laysStations_2 LF)))]) kM_laysStations (xcuts_ok (List.forall_mem_cons.mpr ⟨tM_laysStations_2 LF, fun _ h => absurd h List.not_mem_nil⟩)) 58 (fun vs st h r hr => ?_)
  unfold wM_laysStations at hr
  split at hr
  · exact (eM_laysStations _ _ _).symm.trans hr
  · cases hr
def FM_laysStations : List Value → XH → XR := fun vs h => match vs with
  | [.ref a0, .int x1] => qM_laysStations a0 x1 h
  | _ => none
theorem SM_laysStations : XS yX9_laysStations cX9_laysStations 5 none (xrm 3 66) FM_laysStations := by
  refine XS.of (own := RX9) (by decide) rfl (rk := 0) rfl (tM_laysStations) (fun vs h r hr => ?_)
  unfold FM_laysStations at hr
  split at hr
  · exact ⟨rfl, Nat.le_of_ble_eq_true rfl, hr⟩
  · cases hr
