-- LineDiagram$Board.columnsTo(II)I
def rB_columnsTo : List (Nat × XRow) := [(0, (.iload_n 0, 1, 0, .null, [])),
  (1, (.tableswitch 44 0 5 #[39, 41, 39, 39, 41, 41], 40, 45, .null, [((0 : Int32), 40), ((1 : Int32), 42), ((2 : Int32), 40), ((3 : Int32), 40), ((4 : Int32), 42), ((5 : Int32), 42)])),
  (40, (.iconst 1, 41, 0, .int (1 : Int32), [])),
  (41, (.ireturn, 42, 0, .null, [])),
  (42, (.iload_n 1, 43, 1, .null, [])),
  (43, (.ineg, 44, 0, .null, [])),
  (44, (.ireturn, 45, 0, .null, [])),
  (45, (.iload_n 1, 46, 1, .null, [])),
  (46, (.iconst 2, 47, 0, .int (2 : Int32), [])),
  (47, (.idiv, 48, 0, .null, [])),
  (48, (.ineg, 49, 0, .null, [])),
  (49, (.ireturn, 50, 0, .null, []))]
def mB_columnsTo : List (Nat × XM) := []
abbrev BB_columnsTo : XB := (rB_columnsTo, XFT_B, mB_columnsTo, 1, XST_B)
set_option maxRecDepth 100000 in
theorem kB_columnsTo : XOK BB_columnsTo cX0_columnsTo 2 RX0 0 0 := xok_of (cps := []) (K := XKT_B) (by decide +kernel) XKT_B_ok (fun _ h => absurd h List.not_mem_nil) XFT_B_ok (fun _ h => absurd h List.not_mem_nil) XST_B_ok
def wB_columnsTo (f : Int32 → Int32 → XH → XR) : List Value → List Value → XH → XR := fun vs st h => match vs, st with
  | [.int x0, .int x1], [] => f x0 x1 h
  | _, _ => none
set_option maxRecDepth 100000 in
theorem eB_columnsTo (x0 : Int32) (x1 : Int32) (h : XH) : qB_columnsTo x0 x1 h = xrun BB_columnsTo (xfind []) 15 0 (List.zip [0, 1] [.int x0, .int x1]) [] h := rfl
theorem tB_columnsTo : XTo cX0_columnsTo 2 RX0 1 0 0 0 [0, 1] (wB_columnsTo (qB_columnsTo)) := by
  refine XTo.run (B := BB_columnsTo) (cut := xfind []) kB_columnsTo (xcuts_ok (fun _ h => absurd h List.not_mem_nil)) 15 (fun vs st h r hr => ?_)
  unfold wB_columnsTo at hr
  split at hr
  · exact (eB_columnsTo _ _ _).symm.trans hr
  · cases hr
def FB_columnsTo : List Value → XH → XR := fun vs h => match vs with
  | [.int x0, .int x1] => qB_columnsTo x0 x1 h
  | _ => none
theorem SB_columnsTo : XS yX0_columnsTo cX0_columnsTo 2 (some .int) (xrm 0 0) FB_columnsTo := by
  refine XS.of (own := RX0) (by decide) rfl (rk := 1) rfl (tB_columnsTo) (fun vs h r hr => ?_)
  unfold FB_columnsTo at hr
  split at hr
  · exact ⟨rfl, Nat.le_of_ble_eq_true rfl, hr⟩
  · cases hr
-- LineDiagram$Board.rowsTo(I)I
def rB_rowsTo : List (Nat × XRow) := [(0, (.iload_n 0, 1, 0, .null, [])),
  (1, (.tableswitch 47 0 6 #[43, 43, 45, 47, 45, 47, 45], 44, 48, .null, [((0 : Int32), 44), ((1 : Int32), 44), ((2 : Int32), 46), ((3 : Int32), 48), ((4 : Int32), 46), ((5 : Int32), 48), ((6 : Int32), 46)])),
  (44, (.iconst 0, 45, 0, .int (0 : Int32), [])),
  (45, (.ireturn, 46, 0, .null, [])),
  (46, (.iconst (-1), 47, 0, .int (-1 : Int32), [])),
  (47, (.ireturn, 48, 0, .null, [])),
  (48, (.iconst 1, 49, 0, .int (1 : Int32), [])),
  (49, (.ireturn, 50, 0, .null, []))]
def mB_rowsTo : List (Nat × XM) := []
abbrev BB_rowsTo : XB := (rB_rowsTo, XFT_B, mB_rowsTo, 1, XST_B)
set_option maxRecDepth 100000 in
theorem kB_rowsTo : XOK BB_rowsTo cX0_rowsTo 1 RX0 0 0 := xok_of (cps := []) (K := XKT_B) (by decide +kernel) XKT_B_ok (fun _ h => absurd h List.not_mem_nil) XFT_B_ok (fun _ h => absurd h List.not_mem_nil) XST_B_ok
def wB_rowsTo (f : Int32 → XH → XR) : List Value → List Value → XH → XR := fun vs st h => match vs, st with
  | [.int x0], [] => f x0 h
  | _, _ => none
set_option maxRecDepth 100000 in
theorem eB_rowsTo (x0 : Int32) (h : XH) : qB_rowsTo x0 h = xrun BB_rowsTo (xfind []) 11 0 (List.zip [0] [.int x0]) [] h := rfl
theorem tB_rowsTo : XTo cX0_rowsTo 1 RX0 1 0 0 0 [0] (wB_rowsTo (qB_rowsTo)) := by
  refine XTo.run (B := BB_rowsTo) (cut := xfind []) kB_rowsTo (xcuts_ok (fun _ h => absurd h List.not_mem_nil)) 11 (fun vs st h r hr => ?_)
  unfold wB_rowsTo at hr
  split at hr
  · exact (eB_rowsTo _ _).symm.trans hr
  · cases hr
def FB_rowsTo : List Value → XH → XR := fun vs h => match vs with
  | [.int x0] => qB_rowsTo x0 h
  | _ => none
theorem SB_rowsTo : XS yX0_rowsTo cX0_rowsTo 1 (some .int) (xrm 0 0) FB_rowsTo := by
  refine XS.of (own := RX0) (by decide) rfl (rk := 1) rfl (tB_rowsTo) (fun vs h r hr => ?_)
  unfold FB_rowsTo at hr
  split at hr
  · exact ⟨rfl, Nat.le_of_ble_eq_true rfl, hr⟩
  · cases hr
-- LineDiagram$Board.holds(II)Z
def rB_holds : List (Nat × XRow) := [(0, (.iload_n 1, 1, 1, .null, [])),
  (1, (.ifCond .lt 27, 4, 28, .null, [])),
  (4, (.iload_n 1, 5, 1, .null, [])),
  (5, (.aload_n 0, 6, 0, .null, [])),
  (6, (.getfield 33, 9, 33, .null, [])),
  (9, (.if_icmp .ge 19, 12, 28, .null, [])),
  (12, (.iload_n 2, 13, 2, .null, [])),
  (13, (.ifCond .lt 15, 16, 28, .null, [])),
  (16, (.iload_n 2, 17, 2, .null, [])),
  (17, (.aload_n 0, 18, 0, .null, [])),
  (18, (.getfield 37, 21, 37, .null, [])),
  (21, (.if_icmp .ge 7, 24, 28, .null, [])),
  (24, (.iconst 1, 25, 0, .int (1 : Int32), [])),
  (25, (.goto 4, 28, 29, .null, [])),
  (28, (.iconst 0, 29, 0, .int (0 : Int32), [])),
  (29, (.ireturn, 30, 0, .null, []))]
def mB_holds : List (Nat × XM) := []
abbrev BB_holds : XB := (rB_holds, XFT_B, mB_holds, 6, XST_B)
set_option maxRecDepth 100000 in
theorem kB_holds : XOK BB_holds cX0_holds 3 RX0 0 0 := xok_of (cps := []) (K := XKT_B) (by decide +kernel) XKT_B_ok (fun _ h => absurd h List.not_mem_nil) XFT_B_ok (fun _ h => absurd h List.not_mem_nil) XST_B_ok
def wB_holds (f : Nat → Int32 → Int32 → XH → XR) : List Value → List Value → XH → XR := fun vs st h => match vs, st with
  | [.ref a0, .int x1, .int x2], [] => f a0 x1 x2 h
  | _, _ => none
set_option maxRecDepth 100000 in
theorem eB_holds (a0 : Nat) (x1 : Int32) (x2 : Int32) (h : XH) : qB_holds a0 x1 x2 h = xrun BB_holds (xfind []) 19 0 (List.zip [0, 1, 2] [.ref a0, .int x1, .int x2]) [] h := rfl
theorem tB_holds : XTo cX0_holds 3 RX0 6 0 0 0 [0, 1, 2] (wB_holds (qB_holds)) := by
  refine XTo.run (B := BB_holds) (cut := xfind []) kB_holds (xcuts_ok (fun _ h => absurd h List.not_mem_nil)) 19 (fun vs st h r hr => ?_)
  unfold wB_holds at hr
  split at hr
  · exact (eB_holds _ _ _ _).symm.trans hr
  · cases hr
def FB_holds : List Value → XH → XR := fun vs h => match vs with
  | [.ref a0, .int x1, .int x2] => qB_holds a0 x1 x2 h
  | _ => none
theorem SB_holds : XS yX0_holds cX0_holds 3 (some .boolean) (xrm 0 0) FB_holds := by
  refine XS.of (own := RX0) (by decide) rfl (rk := 6) rfl (tB_holds) (fun vs h r hr => ?_)
  unfold FB_holds at hr
  split at hr
  · exact ⟨rfl, Nat.le_of_ble_eq_true rfl, hr⟩
  · cases hr
-- LineDiagram$Board.beginOf(II)I
def rB_beginOf : List (Nat × XRow) := [(0, (.iload_n 1, 1, 1, .null, [])),
  (1, (.invokestatic 147, 4, 147, .null, [])),
  (4, (.iload_n 2, 5, 2, .null, [])),
  (5, (.aload_n 0, 6, 0, .null, [])),
  (6, (.getfield 24, 9, 24, .null, [])),
  (9, (.iload_n 1, 10, 1, .null, [])),
  (10, (.iaload, 11, 0, .null, [])),
  (11, (.invokestatic 156, 14, 156, .null, [])),
  (14, (.iadd, 15, 0, .null, [])),
  (15, (.istore_n 3, 16, 3, .null, [])),
  (16, (.iload_n 1, 17, 1, .null, [])),
  (17, (.invokestatic 153, 20, 153, .null, [])),
  (20, (.iload_n 2, 21, 2, .null, [])),
  (21, (.invokestatic 159, 24, 159, .null, [])),
  (24, (.iadd, 25, 0, .null, [])),
  (25, (.istore 4, 27, 4, .null, [])),
  (27, (.aload_n 0, 28, 0, .null, [])),
  (28, (.iload_n 3, 29, 3, .null, [])),
  (29, (.iload 4, 31, 4, .null, [])),
  (31, (.invokevirtual 162, 34, 162, .null, [])),
  (34, (.ifCond .eq 31, 37, 65, .null, [])),
  (37, (.aload_n 0, 38, 0, .null, [])),
  (38, (.iload_n 3, 39, 3, .null, [])),
  (39, (.aload_n 0, 40, 0, .null, [])),
  (40, (.getfield 24, 43, 24, .null, [])),
  (43, (.iload_n 1, 44, 1, .null, [])),
  (44, (.iaload, 45, 0, .null, [])),
  (45, (.iadd, 46, 0, .null, [])),
  (46, (.iconst 1, 47, 0, .int (1 : Int32), [])),
  (47, (.isub, 48, 0, .null, [])),
  (48, (.iload 4, 50, 4, .null, [])),
  (50, (.invokevirtual 162, 53, 162, .null, [])),
  (53, (.ifCond .eq 12, 56, 65, .null, [])),
  (56, (.iload_n 3, 57, 3, .null, [])),
  (57, (.iload 4, 59, 4, .null, [])),
  (59, (.invokestatic 75, 62, 75, .null, [])),
  (62, (.goto 4, 65, 66, .null, [])),
  (65, (.iconst (-1), 66, 0, .int (-1 : Int32), [])),
  (66, (.ireturn, 67, 0, .null, []))]
def mB_beginOf : List (Nat × XM) := [(75, (2, 1, none, FD_cellAt)), (147, (1, 1, none, FD_columnOf)), (153, (1, 1, none, FD_rowOf)), (156, (2, 1, none, FB_columnsTo)), (159, (1, 1, none, FB_rowsTo)), (162, (3, 1, some 0, FB_holds))]
abbrev BB_beginOf : XB := (rB_beginOf, XFT_B, mB_beginOf, 1, XST_B)
set_option maxRecDepth 100000 in
theorem kB_beginOf : XOK BB_beginOf cX0_beginOf 5 RX0 1 22 := xok_of (cps := []) (K := XKT_B) (by decide +kernel) XKT_B_ok (fun _ h => absurd h List.not_mem_nil) XFT_B_ok (List.forall_mem_cons.mpr ⟨⟨_, _, _, _, _, _, SD_cellAt, Nat.le_of_ble_eq_true rfl, Nat.le_of_ble_eq_true rfl, cdD_cellAt, lkB_75, imD_cellAt, inD_cellAt, pmD_cellAt⟩, List.forall_mem_cons.mpr ⟨⟨_, _, _, _, _, _, SD_columnOf, Nat.le_of_ble_eq_true rfl, Nat.le_of_ble_eq_true rfl, cdD_columnOf, lkB_147, imD_columnOf, inD_columnOf, pmD_columnOf⟩, List.forall_mem_cons.mpr ⟨⟨_, _, _, _, _, _, SD_rowOf, Nat.le_of_ble_eq_true rfl, Nat.le_of_ble_eq_true rfl, cdD_rowOf, lkB_153, imD_rowOf, inD_rowOf, pmD_rowOf⟩, List.forall_mem_cons.mpr ⟨⟨_, _, _, _, _, _, SB_columnsTo, Nat.le_of_ble_eq_true rfl, Nat.le_of_ble_eq_true rfl, cdB_columnsTo, lkB_156, imB_columnsTo, inB_columnsTo, pmB_columnsTo⟩, List.forall_mem_cons.mpr ⟨⟨_, _, _, _, _, _, SB_rowsTo, Nat.le_of_ble_eq_true rfl, Nat.le_of_ble_eq_true rfl, cdB_rowsTo, lkB_159, imB_rowsTo, inB_rowsTo, pmB_rowsTo⟩, List.forall_mem_cons.mpr ⟨⟨_, _, _, _, _, _, _, SB_holds, rfl, rfl, Nat.le_of_ble_eq_true rfl, Nat.le_of_ble_eq_true rfl, cdB_holds, lkB_162, imB_holds, slB_holds, inB_holds, pmB_holds⟩, fun _ h => absurd h List.not_mem_nil⟩⟩⟩⟩⟩⟩) XST_B_ok
def wB_beginOf (f : Nat → Int32 → Int32 → XH → XR) : List Value → List Value → XH → XR := fun vs st h => match vs, st with
  | [.ref a0, .int x1, .int x2], [] => f a0 x1 x2 h
  | _, _ => none
set_option maxRecDepth 100000 in
theorem eB_beginOf (a0 : Nat) (x1 : Int32) (x2 : Int32) (h : XH) : qB_beginOf a0 x1 x2 h = xrun BB_beginOf (xfind []) 42 0 (List.zip [0, 1, 2] [.ref a0, .int x1, .int x2]) [] h := rfl
theorem tB_beginOf : XTo cX0_beginOf 5 RX0 1 1 22 0 [0, 1, 2] (wB_beginOf (qB_beginOf)) := by
  refine XTo.run (B := BB_beginOf) (cut := xfind []) kB_beginOf (xcuts_ok (fun _ h => absurd h List.not_mem_nil)) 42 (fun vs st h r hr => ?_)
  unfold wB_beginOf at hr
  split at hr
  · exact (eB_beginOf _ _ _ _).symm.trans hr
  · cases hr
def FB_beginOf : List Value → XH → XR := fun vs h => match vs with
  | [.ref a0, .int x1, .int x2] => qB_beginOf a0 x1 x2 h
  | _ => none
theorem SB_beginOf : XS yX0_beginOf cX0_beginOf 5 (some .int) (xrm 1 22) FB_beginOf := by
  refine XS.of (own := RX0) (by decide) rfl (rk := 1) rfl (tB_beginOf) (fun vs h r hr => ?_)
  unfold FB_beginOf at hr
  split at hr
  · exact ⟨rfl, Nat.le_of_ble_eq_true rfl, hr⟩
  · cases hr
-- LineDiagram$Board.reason(II)I
def rB_reason : List (Nat × XRow) := [(0, (.aload_n 0, 1, 0, .null, [])),
  (1, (.iload_n 1, 2, 1, .null, [])),
  (2, (.iload_n 2, 3, 2, .null, [])),
  (3, (.invokevirtual 165, 6, 165, .null, [])),
  (6, (.istore_n 3, 7, 3, .null, [])),
  (7, (.iload_n 3, 8, 3, .null, [])),
  (8, (.ifCond .ge 6, 11, 14, .null, [])),
  (11, (.bipush (-5), 13, 0, .int (-5 : Int32), [])),
  (13, (.ireturn, 14, 0, .null, [])),
  (14, (.iconst 0, 15, 0, .int (0 : Int32), [])),
  (15, (.istore 4, 17, 4, .null, [])),
  (17, (.iload_n 3, 18, 3, .null, [])),
  (18, (.istore 5, 20, 5, .null, [])),
  (20, (.iload 5, 22, 5, .null, [])),
  (22, (.iload_n 3, 23, 3, .null, [])),
  (23, (.aload_n 0, 24, 0, .null, [])),
  (24, (.getfield 24, 27, 24, .null, [])),
  (27, (.iload_n 1, 28, 1, .null, [])),
  (28, (.iaload, 29, 0, .null, [])),
  (29, (.iadd, 30, 0, .null, [])),
  (30, (.if_icmp .ge 49, 33, 79, .null, [])),
  (33, (.aload_n 0, 34, 0, .null, [])),
  (34, (.getfield 9, 37, 9, .null, [])),
  (37, (.iload 5, 39, 5, .null, [])),
  (39, (.iaload, 40, 0, .null, [])),
  (40, (.ifCond .eq 6, 43, 46, .null, [])),
  (43, (.bipush (-6), 45, 0, .int (-6 : Int32), [])),
  (45, (.ireturn, 46, 0, .null, [])),
  (46, (.aload_n 0, 47, 0, .null, [])),
  (47, (.getfield 27, 50, 27, .null, [])),
  (50, (.iload 5, 52, 5, .null, [])),
  (52, (.iaload, 53, 0, .null, [])),
  (53, (.ifCond .eq 20, 56, 73, .null, [])),
  (56, (.aload_n 0, 57, 0, .null, [])),
  (57, (.getfield 27, 60, 27, .null, [])),
  (60, (.iload 5, 62, 5, .null, [])),
  (62, (.iaload, 63, 0, .null, [])),
  (63, (.iload_n 1, 64, 1, .null, [])),
  (64, (.iconst 1, 65, 0, .int (1 : Int32), [])),
  (65, (.iadd, 66, 0, .null, [])),
  (66, (.if_icmp .eq 7, 69, 73, .null, [])),
  (69, (.bipush (-7), 71, 0, .int (-7 : Int32), [])),
  (71, (.istore 4, 73, 4, .null, [])),
  (73, (.iinc 5 1, 76, 5, .int (1 : Int32), [])),
  (76, (.goto (-56), 79, 20, .null, [])),
  (79, (.iload 4, 81, 4, .null, [])),
  (81, (.ireturn, 82, 0, .null, []))]
def mB_reason : List (Nat × XM) := [(165, (3, 1, some 0, FB_beginOf))]
abbrev BB_reason : XB := (rB_reason, XFT_B, mB_reason, 1, XST_B)
set_option maxRecDepth 100000 in
theorem kB_reason : XOK BB_reason cX0_reason 6 RX0 2 46 := xok_of (cps := []) (K := XKT_B) (by decide +kernel) XKT_B_ok (fun _ h => absurd h List.not_mem_nil) XFT_B_ok (List.forall_mem_cons.mpr ⟨⟨_, _, _, _, _, _, _, SB_beginOf, rfl, rfl, Nat.le_of_ble_eq_true rfl, Nat.le_of_ble_eq_true rfl, cdB_beginOf, lkB_165, imB_beginOf, slB_beginOf, inB_beginOf, pmB_beginOf⟩, fun _ h => absurd h List.not_mem_nil⟩) XST_B_ok
def wB_reason_20 (f : Nat → Int32 → Int32 → Int32 → Int32 → XH → XR) : List Value → List Value → XH → XR := fun vs st h => match vs, st with
  | [.ref a0, .int x1, .int x3, .int x4, .int x5], [] => f a0 x1 x3 x4 x5 h
  | _, _ => none
def wB_reason (f : Nat → Int32 → Int32 → XH → XR) : List Value → List Value → XH → XR := fun vs st h => match vs, st with
  | [.ref a0, .int x1, .int x2], [] => f a0 x1 x2 h
  | _, _ => none
set_option maxRecDepth 100000 in
theorem eB_reason_20_b (k20 : Nat → Int32 → Int32 → Int32 → Int32 → XH → XR) (a0 : Nat) (x1 : Int32) (x3 : Int32) (x4 : Int32) (x5 : Int32) (h : XH) : qB_reason_20_b k20 a0 x1 x3 x4 x5 h = xrun BB_reason (xfind [(20, ([0, 1, 3, 4, 5], wB_reason_20 (k20)))]) 50 20 (List.zip [0, 1, 3, 4, 5] [.ref a0, .int x1, .int x3, .int x4, .int x5]) [] h := rfl
theorem tB_reason_20_b {k20 : Nat → Int32 → Int32 → Int32 → Int32 → XH → XR} (hk20 : XTo cX0_reason 6 RX0 1 2 46 20 [0, 1, 3, 4, 5] (wB_reason_20 k20)) : XTo cX0_reason 6 RX0 1 2 46 20 [0, 1, 3, 4, 5] (wB_reason_20 (qB_reason_20_b k20)) := by
  refine XTo.run (B := BB_reason) (cut := xfind [(20, ([0, 1, 3, 4, 5], wB_reason_20 (k20)))]) kB_reason (xcuts_ok (List.forall_mem_cons.mpr ⟨hk20, fun _ h => absurd h List.not_mem_nil⟩)) 50 (fun vs st h r hr => ?_)
  unfold wB_reason_20 at hr
  split at hr
  · exact (eB_reason_20_b k20 _ _ _ _ _ _).symm.trans hr
  · cases hr
theorem tB_reason_20 : ∀ n : Nat, XTo cX0_reason 6 RX0 1 2 46 20 [0, 1, 3, 4, 5] (wB_reason_20 (qB_reason_20 n)) := by
  intro n
  induction n with
  | zero =>
    refine XTo.none fun vs st h => ?_
    unfold wB_reason_20
    split <;> rfl
  | succ n ih => exact tB_reason_20_b  ih
set_option maxRecDepth 100000 in
theorem eB_reason (a0 : Nat) (x1 : Int32) (x2 : Int32) (h : XH) : qB_reason a0 x1 x2 h = xrun BB_reason (xfind [(20, ([0, 1, 3, 4, 5], wB_reason_20 (qB_reason_20 LF)))]) 50 0 (List.zip [0, 1, 2] [.ref a0, .int x1, .int x2]) [] h := rfl
theorem tB_reason : XTo cX0_reason 6 RX0 1 2 46 0 [0, 1, 2] (wB_reason (qB_reason)) := by
  refine XTo.run (B := BB_reason) (cut := xfind [(20, ([0, 1, 3, 4, 5], wB_reason_20 (qB_reason_20 LF)))]) kB_reason (xcuts_ok (List.forall_mem_cons.mpr ⟨tB_reason_20 LF, fun _ h => absurd h List.not_mem_nil⟩)) 50 (fun vs st h r hr => ?_)
  unfold wB_reason at hr
  split at hr
  · exact (eB_reason _ _ _ _).symm.trans hr
  · cases hr
def FB_reason : List Value → XH → XR := fun vs h => match vs with
  | [.ref a0, .int x1, .int x2] => qB_reason a0 x1 x2 h
  | _ => none
theorem SB_reason : XS yX0_reason cX0_reason 6 (some .int) (xrm 2 46) FB_reason := by
  refine XS.of (own := RX0) (by decide) rfl (rk := 1) rfl (tB_reason) (fun vs h r hr => ?_)
  unfold FB_reason at hr
  split at hr
  · exact ⟨rfl, Nat.le_of_ble_eq_true rfl, hr⟩
  · cases hr
-- LineDiagram$Board.paint(III)V
def rB_paint : List (Nat × XRow) := [(0, (.aload_n 0, 1, 0, .null, [])),
  (1, (.iload_n 1, 2, 1, .null, [])),
  (2, (.iload_n 2, 3, 2, .null, [])),
  (3, (.invokevirtual 165, 6, 165, .null, [])),
  (6, (.istore 4, 8, 4, .null, [])),
  (8, (.iload 4, 10, 4, .null, [])),
  (10, (.ifCond .ge 4, 13, 14, .null, [])),
  (13, (.return_, 14, 0, .null, [])),
  (14, (.iload 4, 16, 4, .null, [])),
  (16, (.istore 5, 18, 5, .null, [])),
  (18, (.iload 5, 20, 5, .null, [])),
  (20, (.iload 4, 22, 4, .null, [])),
  (22, (.aload_n 0, 23, 0, .null, [])),
  (23, (.getfield 24, 26, 24, .null, [])),
  (26, (.iload_n 1, 27, 1, .null, [])),
  (27, (.iaload, 28, 0, .null, [])),
  (28, (.iadd, 29, 0, .null, [])),
  (29, (.if_icmp .ge 17, 32, 46, .null, [])),
  (32, (.aload_n 0, 33, 0, .null, [])),
  (33, (.getfield 27, 36, 27, .null, [])),
  (36, (.iload 5, 38, 5, .null, [])),
  (38, (.iload_n 3, 39, 3, .null, [])),
  (39, (.iastore, 40, 0, .null, [])),
  (40, (.iinc 5 1, 43, 5, .int (1 : Int32), [])),
  (43, (.goto (-25), 46, 18, .null, [])),
  (46, (.return_, 47, 0, .null, []))]
def mB_paint : List (Nat × XM) := [(165, (3, 1, some 0, FB_beginOf))]
abbrev BB_paint : XB := (rB_paint, XFT_B, mB_paint, 0, XST_B)
set_option maxRecDepth 100000 in
theorem kB_paint : XOK BB_paint cX0_paint 6 RX0 2 46 := xok_of (cps := []) (K := XKT_B) (by decide +kernel) XKT_B_ok (fun _ h => absurd h List.not_mem_nil) XFT_B_ok (List.forall_mem_cons.mpr ⟨⟨_, _, _, _, _, _, _, SB_beginOf, rfl, rfl, Nat.le_of_ble_eq_true rfl, Nat.le_of_ble_eq_true rfl, cdB_beginOf, lkB_165, imB_beginOf, slB_beginOf, inB_beginOf, pmB_beginOf⟩, fun _ h => absurd h List.not_mem_nil⟩) XST_B_ok
def wB_paint_18 (f : Nat → Int32 → Int32 → Int32 → Int32 → XH → XR) : List Value → List Value → XH → XR := fun vs st h => match vs, st with
  | [.ref a0, .int x1, .int x3, .int x4, .int x5], [] => f a0 x1 x3 x4 x5 h
  | _, _ => none
def wB_paint (f : Nat → Int32 → Int32 → Int32 → XH → XR) : List Value → List Value → XH → XR := fun vs st h => match vs, st with
  | [.ref a0, .int x1, .int x2, .int x3], [] => f a0 x1 x2 x3 h
  | _, _ => none
set_option maxRecDepth 100000 in
theorem eB_paint_18_b (k18 : Nat → Int32 → Int32 → Int32 → Int32 → XH → XR) (a0 : Nat) (x1 : Int32) (x3 : Int32) (x4 : Int32) (x5 : Int32) (h : XH) : qB_paint_18_b k18 a0 x1 x3 x4 x5 h = xrun BB_paint (xfind [(18, ([0, 1, 3, 4, 5], wB_paint_18 (k18)))]) 29 18 (List.zip [0, 1, 3, 4, 5] [.ref a0, .int x1, .int x3, .int x4, .int x5]) [] h := rfl
theorem tB_paint_18_b {k18 : Nat → Int32 → Int32 → Int32 → Int32 → XH → XR} (hk18 : XTo cX0_paint 6 RX0 0 2 46 18 [0, 1, 3, 4, 5] (wB_paint_18 k18)) : XTo cX0_paint 6 RX0 0 2 46 18 [0, 1, 3, 4, 5] (wB_paint_18 (qB_paint_18_b k18)) := by
  refine XTo.run (B := BB_paint) (cut := xfind [(18, ([0, 1, 3, 4, 5], wB_paint_18 (k18)))]) kB_paint (xcuts_ok (List.forall_mem_cons.mpr ⟨hk18, fun _ h => absurd h List.not_mem_nil⟩)) 29 (fun vs st h r hr => ?_)
  unfold wB_paint_18 at hr
  split at hr
  · exact (eB_paint_18_b k18 _ _ _ _ _ _).symm.trans hr
  · cases hr
theorem tB_paint_18 : ∀ n : Nat, XTo cX0_paint 6 RX0 0 2 46 18 [0, 1, 3, 4, 5] (wB_paint_18 (qB_paint_18 n)) := by
  intro n
  induction n with
  | zero =>
    refine XTo.none fun vs st h => ?_
    unfold wB_paint_18
    split <;> rfl
  | succ n ih => exact tB_paint_18_b  ih
set_option maxRecDepth 100000 in
theorem eB_paint (a0 : Nat) (x1 : Int32) (x2 : Int32) (x3 : Int32) (h : XH) : qB_paint a0 x1 x2 x3 h = xrun BB_paint (xfind [(18, ([0, 1, 3, 4, 5], wB_paint_18 (qB_paint_18 LF)))]) 29 0 (List.zip [0, 1, 2, 3] [.ref a0, .int x1, .int x2, .int x3]) [] h := rfl
theorem tB_paint : XTo cX0_paint 6 RX0 0 2 46 0 [0, 1, 2, 3] (wB_paint (qB_paint)) := by
  refine XTo.run (B := BB_paint) (cut := xfind [(18, ([0, 1, 3, 4, 5], wB_paint_18 (qB_paint_18 LF)))]) kB_paint (xcuts_ok (List.forall_mem_cons.mpr ⟨tB_paint_18 LF, fun _ h => absurd h List.not_mem_nil⟩)) 29 (fun vs st h r hr => ?_)
  unfold wB_paint at hr
  split at hr
  · exact (eB_paint _ _ _ _ _).symm.trans hr
  · cases hr
def FB_paint : List Value → XH → XR := fun vs h => match vs with
  | [.ref a0, .int x1, .int x2, .int x3] => qB_paint a0 x1 x2 x3 h
  | _ => none
theorem SB_paint : XS yX0_paint cX0_paint 6 none (xrm 2 46) FB_paint := by
  refine XS.of (own := RX0) (by decide) rfl (rk := 0) rfl (tB_paint) (fun vs h r hr => ?_)
  unfold FB_paint at hr
  split at hr
  · exact ⟨rfl, Nat.le_of_ble_eq_true rfl, hr⟩
  · cases hr
-- LineDiagram$Labels.keepFitting(LLineDiagram$Board;)I
def rLb_keepFitting : List (Nat × XRow) := [(0, (.iconst 0, 1, 0, .int (0 : Int32), [])),
  (1, (.istore_n 2, 2, 2, .null, [])),
  (2, (.iconst 0, 3, 0, .int (0 : Int32), [])),
  (3, (.istore_n 3, 4, 3, .null, [])),
  (4, (.iload_n 3, 5, 3, .null, [])),
  (5, (.aload_n 0, 6, 0, .null, [])),
  (6, (.getfield 18, 9, 18, .null, [])),
  (9, (.if_icmp .ge 77, 12, 86, .null, [])),
  (12, (.aload_n 0, 13, 0, .null, [])),
  (13, (.getfield 9, 16, 9, .null, [])),
  (16, (.iload_n 3, 17, 3, .null, [])),
  (17, (.iaload, 18, 0, .null, [])),
  (18, (.istore 4, 20, 4, .null, [])),
  (20, (.aload_n 0, 21, 0, .null, [])),
  (21, (.getfield 15, 24, 15, .null, [])),
  (24, (.iload_n 3, 25, 3, .null, [])),
  (25, (.iaload, 26, 0, .null, [])),
  (26, (.istore 5, 28, 5, .null, [])),
  (28, (.aload_n 1, 29, 1, .null, [])),
  (29, (.getfield 32, 32, 32, .null, [])),
  (32, (.iload 4, 34, 4, .null, [])),
  (34, (.iaload, 35, 0, .null, [])),
  (35, (.ifCond .le 45, 38, 80, .null, [])),
  (38, (.aload_n 1, 39, 1, .null, [])),
  (39, (.iload 4, 41, 4, .null, [])),
  (41, (.iload 5, 43, 5, .null, [])),
  (43, (.invokevirtual 37, 46, 37, .null, [])),
  (46, (.ifCond .ne 34, 49, 80, .null, [])),
  (49, (.aload_n 1, 50, 1, .null, [])),
  (50, (.iload 4, 52, 4, .null, [])),
  (52, (.iload 5, 54, 5, .null, [])),
  (54, (.iload 4, 56, 4, .null, [])),
  (56, (.iconst 1, 57, 0, .int (1 : Int32), [])),
  (57, (.iadd, 58, 0, .null, [])),
  (58, (.invokevirtual 41, 61, 41, .null, [])),
  (61, (.aload_n 0, 62, 0, .null, [])),
  (62, (.getfield 9, 65, 9, .null, [])),
  (65, (.iload_n 2, 66, 2, .null, [])),
  (66, (.iload 4, 68, 4, .null, [])),
  (68, (.iastore, 69, 0, .null, [])),
  (69, (.aload_n 0, 70, 0, .null, [])),
  (70, (.getfield 15, 73, 15, .null, [])),
  (73, (.iload_n 2, 74, 2, .null, [])),
  (74, (.iload 5, 76, 5, .null, [])),
  (76, (.iastore, 77, 0, .null, [])),
  (77, (.iinc 2 1, 80, 2, .int (1 : Int32), [])),
  (80, (.iinc 3 1, 83, 3, .int (1 : Int32), [])),
  (83, (.goto (-79), 86, 4, .null, [])),
  (86, (.aload_n 0, 87, 0, .null, [])),
  (87, (.getfield 18, 90, 18, .null, [])),
  (90, (.iload_n 2, 91, 2, .null, [])),
  (91, (.isub, 92, 0, .null, [])),
  (92, (.istore_n 3, 93, 3, .null, [])),
  (93, (.aload_n 0, 94, 0, .null, [])),
  (94, (.iload_n 2, 95, 2, .null, [])),
  (95, (.putfield 18, 98, 18, .null, [])),
  (98, (.iload_n 3, 99, 3, .null, [])),
  (99, (.ireturn, 100, 0, .null, []))]
def mLb_keepFitting : List (Nat × XM) := [(37, (3, 1, some 0, FB_reason)), (41, (4, 0, some 0, FB_paint))]
abbrev BLb_keepFitting : XB := (rLb_keepFitting, XFT_Lb, mLb_keepFitting, 1, XST_Lb)
set_option maxRecDepth 100000 in
theorem kLb_keepFitting : XOK BLb_keepFitting cX2_keepFitting 6 RX2 3 71 := xok_of (cps := []) (K := XKT_Lb) (by decide +kernel) XKT_Lb_ok (fun _ h => absurd h List.not_mem_nil) XFT_Lb_ok (List.forall_mem_cons.mpr ⟨⟨_, _, _, _, _, _, _, SB_reason, rfl, rfl, Nat.le_of_ble_eq_true rfl, Nat.le_of_ble_eq_true rfl, cdB_reason, lkLb_37, imB_reason, slB_reason, inB_reason, pmB_reason⟩, List.forall_mem_cons.mpr ⟨⟨_, _, _, _, _, _, _, SB_paint, rfl, rfl, Nat.le_of_ble_eq_true rfl, Nat.le_of_ble_eq_true rfl, cdB_paint, lkLb_41, imB_paint, slB_paint, inB_paint, pmB_paint⟩, fun _ h => absurd h List.not_mem_nil⟩⟩) XST_Lb_ok
def wLb_keepFitting_86 (f : Nat → Int32 → XH → XR) : List Value → List Value → XH → XR := fun vs st h => match vs, st with
  | [.ref a0, .int x2], [] => f a0 x2 h
  | _, _ => none
def wLb_keepFitting_4 (f : Nat → Nat → Int32 → Int32 → XH → XR) : List Value → List Value → XH → XR := fun vs st h => match vs, st with
  | [.ref a0, .ref a1, .int x2, .int x3], [] => f a0 a1 x2 x3 h
  | _, _ => none
def wLb_keepFitting (f : Nat → Nat → XH → XR) : List Value → List Value → XH → XR := fun vs st h => match vs, st with
  | [.ref a0, .ref a1], [] => f a0 a1 h
  | _, _ => none
set_option maxRecDepth 100000 in
theorem eLb_keepFitting_86 (a0 : Nat) (x2 : Int32) (h : XH) : qLb_keepFitting_86 a0 x2 h = xrun BLb_keepFitting (xfind []) 61 86 (List.zip [0, 2] [.ref a0, .int x2]) [] h := rfl
theorem tLb_keepFitting_86 : XTo cX2_keepFitting 6 RX2 1 3 71 86 [0, 2] (wLb_keepFitting_86 (qLb_keepFitting_86)) := by
  refine XTo.run (B := BLb_keepFitting) (cut := xfind []) kLb_keepFitting (xcuts_ok (fun _ h => absurd h List.not_mem_nil)) 61 (fun vs st h r hr => ?_)
  unfold wLb_keepFitting_86 at hr
  split at hr
  · exact (eLb_keepFitting_86 _ _ _).symm.trans hr
  · cases hr
set_option maxRecDepth 100000 in
theorem eLb_keepFitting_4_b (k4 : Nat → Nat → Int32 → Int32 → XH → XR) (a0 : Nat) (a1 : Nat) (x2 : Int32) (x3 : Int32) (h : XH) : qLb_keepFitting_4_b k4 a0 a1 x2 x3 h = xrun BLb_keepFitting (xfind [(4, ([0, 1, 2, 3], wLb_keepFitting_4 (k4))), (86, ([0, 2], wLb_keepFitting_86 (qLb_keepFitting_86)))]) 61 4 (List.zip [0, 1, 2, 3] [.ref a0, .ref a1, .int x2, .int x3]) [] h := rfl
theorem tLb_keepFitting_4_b {k4 : Nat → Nat → Int32 → Int32 → XH → XR} (hk4 : XTo cX2_keepFitting 6 RX2 1 3 71 4 [0, 1, 2, 3] (wLb_keepFitting_4 k4)) : XTo cX2_keepFitting 6 RX2 1 3 71 4 [0, 1, 2, 3] (wLb_keepFitting_4 (qLb_keepFitting_4_b k4)) := by
  refine XTo.run (B := BLb_keepFitting) (cut := xfind [(4, ([0, 1, 2, 3], wLb_keepFitting_4 (k4))), (86, ([0, 2], wLb_keepFitting_86 (qLb_keepFitting_86)))]) kLb_keepFitting (xcuts_ok (List.forall_mem_cons.mpr ⟨hk4, List.forall_mem_cons.mpr ⟨tLb_keepFitting_86, fun _ h => absurd h List.not_mem_nil⟩⟩)) 61 (fun vs st h r hr => ?_)
  unfold wLb_keepFitting_4 at hr
  split at hr
  · exact (eLb_keepFitting_4_b k4 _ _ _ _ _).symm.trans hr
  · cases hr
theorem tLb_keepFitting_4 : ∀ n : Nat, XTo cX2_keepFitting 6 RX2 1 3 71 4 [0, 1, 2, 3] (wLb_keepFitting_4 (qLb_keepFitting_4 n)) := by
  intro n
  induction n with
  | zero =>
    refine XTo.none fun vs st h => ?_
    unfold wLb_keepFitting_4
    split <;> rfl
  | succ n ih => exact tLb_keepFitting_4_b  ih
set_option maxRecDepth 100000 in
theorem eLb_keepFitting (a0 : Nat) (a1 : Nat) (h : XH) : qLb_keepFitting a0 a1 h = xrun BLb_keepFitting (xfind [(4, ([0, 1, 2, 3], wLb_keepFitting_4 (qLb_keepFitting_4 LF)))]) 61 0 (List.zip [0, 1] [.ref a0, .ref a1]) [] h := rfl
theorem tLb_keepFitting : XTo cX2_keepFitting 6 RX2 1 3 71 0 [0, 1] (wLb_keepFitting (qLb_keepFitting)) := by
  refine XTo.run (B := BLb_keepFitting) (cut := xfind [(4, ([0, 1, 2, 3], wLb_keepFitting_4 (qLb_keepFitting_4 LF)))]) kLb_keepFitting (xcuts_ok (List.forall_mem_cons.mpr ⟨tLb_keepFitting_4 LF, fun _ h => absurd h List.not_mem_nil⟩)) 61 (fun vs st h r hr => ?_)
  unfold wLb_keepFitting at hr
  split at hr
  · exact (eLb_keepFitting _ _ _).symm.trans hr
  · cases hr
def FLb_keepFitting : List Value → XH → XR := fun vs h => match vs with
  | [.ref a0, .ref a1] => qLb_keepFitting a0 a1 h
  | _ => none
theorem SLb_keepFitting : XS yX2_keepFitting cX2_keepFitting 6 (some .int) (xrm 3 71) FLb_keepFitting := by
  refine XS.of (own := RX2) (by decide) rfl (rk := 1) rfl (tLb_keepFitting) (fun vs h r hr => ?_)
  unfold FLb_keepFitting at hr
  split at hr
  · exact ⟨rfl, Nat.le_of_ble_eq_true rfl, hr⟩
  · cases hr
-- LineDiagram.putTrial(I)I
def rD_putTrial : List (Nat × XRow) := [(0, (.aload_n 0, 1, 0, .null, [])),
  (1, (.getfield 29, 4, 29, .null, [])),
  (4, (.getfield 123, 7, 123, .null, [])),
  (7, (.iload_n 1, 8, 1, .null, [])),
  (8, (.aaload, 9, 0, .null, [])),
  (9, (.aload_n 0, 10, 0, .null, [])),
  (10, (.getfield 68, 13, 68, .null, [])),
  (13, (.invokevirtual 130, 16, 130, .null, [])),
  (16, (.aload_n 0, 17, 0, .null, [])),
  (17, (.getfield 54, 20, 54, .null, [])),
  (20, (.aload_n 0, 21, 0, .null, [])),
  (21, (.getfield 29, 24, 29, .null, [])),
  (24, (.invokevirtual 98, 27, 98, .null, [])),
  (27, (.aload_n 0, 28, 0, .null, [])),
  (28, (.getfield 29, 31, 29, .null, [])),
  (31, (.getfield 161, 34, 161, .null, [])),
  (34, (.aload_n 0, 35, 0, .null, [])),
  (35, (.getfield 54, 38, 54, .null, [])),
  (38, (.invokevirtual 355, 41, 355, .null, [])),
  (41, (.ireturn, 42, 0, .null, []))]
def mD_putTrial : List (Nat × XM) := [(98, (2, 0, some 0, FB_drawLines)), (130, (2, 0, some 3, FLn_copyFrom)), (355, (2, 1, some 2, FLb_keepFitting))]
abbrev BD_putTrial : XB := (rD_putTrial, XFT_D, mD_putTrial, 1, XST_D)
set_option maxRecDepth 100000 in
theorem kD_putTrial : XOK BD_putTrial cX8_putTrial 2 RX8 4 97 := xok_of (cps := []) (K := XKT_D) (by decide +kernel) XKT_D_ok (fun _ h => absurd h List.not_mem_nil) XFT_D_ok (List.forall_mem_cons.mpr ⟨⟨_, _, _, _, _, _, _, SB_drawLines, rfl, rfl, Nat.le_of_ble_eq_true rfl, Nat.le_of_ble_eq_true rfl, cdB_drawLines, lkD_98, imB_drawLines, slB_drawLines, inB_drawLines, pmB_drawLines⟩, List.forall_mem_cons.mpr ⟨⟨_, _, _, _, _, _, _, SLn_copyFrom, rfl, rfl, Nat.le_of_ble_eq_true rfl, Nat.le_of_ble_eq_true rfl, cdLn_copyFrom, lkD_130, imLn_copyFrom, slLn_copyFrom, inLn_copyFrom, pmLn_copyFrom⟩, List.forall_mem_cons.mpr ⟨⟨_, _, _, _, _, _, _, SLb_keepFitting, rfl, rfl, Nat.le_of_ble_eq_true rfl, Nat.le_of_ble_eq_true rfl, cdLb_keepFitting, lkD_355, imLb_keepFitting, slLb_keepFitting, inLb_keepFitting, pmLb_keepFitting⟩, fun _ h => absurd h List.not_mem_nil⟩⟩⟩) XST_D_ok
def wD_putTrial (f : Nat → Int32 → XH → XR) : List Value → List Value → XH → XR := fun vs st h => match vs, st with
  | [.ref a0, .int x1], [] => f a0 x1 h
  | _, _ => none
set_option maxRecDepth 100000 in
theorem eD_putTrial (a0 : Nat) (x1 : Int32) (h : XH) : qD_putTrial a0 x1 h = xrun BD_putTrial (xfind []) 23 0 (List.zip [0, 1] [.ref a0, .int x1]) [] h := rfl
theorem tD_putTrial : XTo cX8_putTrial 2 RX8 1 4 97 0 [0, 1] (wD_putTrial (qD_putTrial)) := by
  refine XTo.run (B := BD_putTrial) (cut := xfind []) kD_putTrial (xcuts_ok (fun _ h => absurd h List.not_mem_nil)) 23 (fun vs st h r hr => ?_)
  unfold wD_putTrial at hr
  split at hr
  · exact (eD_putTrial _ _ _).symm.trans hr
  · cases hr
def FD_putTrial : List Value → XH → XR := fun vs h => match vs with
  | [.ref a0, .int x1] => qD_putTrial a0 x1 h
  | _ => none
theorem SD_putTrial : XS yX8_putTrial cX8_putTrial 2 (some .int) (xrm 4 97) FD_putTrial := by
  refine XS.of (own := RX8) (by decide) rfl (rk := 1) rfl (tD_putTrial) (fun vs h r hr => ?_)
  unfold FD_putTrial at hr
  split at hr
  · exact ⟨rfl, Nat.le_of_ble_eq_true rfl, hr⟩
  · cases hr
-- LineDiagram.change(I)I
def rD_change : List (Nat × XRow) := [(0, (.aload_n 0, 1, 0, .null, [])),
  (1, (.getfield 68, 4, 68, .null, [])),
  (4, (.aload_n 0, 5, 0, .null, [])),
  (5, (.getfield 29, 8, 29, .null, [])),
  (8, (.getfield 215, 11, 215, .null, [])),
  (11, (.invokevirtual 352, 14, 352, .null, [])),
  (14, (.istore_n 2, 15, 2, .null, [])),
  (15, (.iload_n 2, 16, 2, .null, [])),
  (16, (.ifCond .ge 5, 19, 21, .null, [])),
  (19, (.iload_n 2, 20, 2, .null, [])),
  (20, (.ireturn, 21, 0, .null, [])),
  (21, (.aload_n 0, 22, 0, .null, [])),
  (22, (.getfield 47, 25, 47, .null, [])),
  (25, (.aload_n 0, 26, 0, .null, [])),
  (26, (.getfield 29, 29, 29, .null, [])),
  (29, (.invokevirtual 173, 32, 173, .null, [])),
  (32, (.aload_n 0, 33, 0, .null, [])),
  (33, (.iload_n 1, 34, 1, .null, [])),
  (34, (.invokevirtual 320, 37, 320, .null, [])),
  (37, (.ireturn, 38, 0, .null, []))]
def mD_change : List (Nat × XM) := [(173, (2, 0, some 1, FH_push)), (320, (2, 1, some 8, FD_putTrial)), (352, (2, 1, some 3, FLn_refusal))]
abbrev BD_change : XB := (rD_change, XFT_D, mD_change, 1, XST_D)
set_option maxRecDepth 100000 in
theorem kD_change : XOK BD_change cX8_change 3 RX8 5 128 := xok_of (cps := []) (K := XKT_D) (by decide +kernel) XKT_D_ok (fun _ h => absurd h List.not_mem_nil) XFT_D_ok (List.forall_mem_cons.mpr ⟨⟨_, _, _, _, _, _, _, SH_push, rfl, rfl, Nat.le_of_ble_eq_true rfl, Nat.le_of_ble_eq_true rfl, cdH_push, lkD_173, imH_push, slH_push, inH_push, pmH_push⟩, List.forall_mem_cons.mpr ⟨⟨_, _, _, _, _, _, _, SD_putTrial, rfl, rfl, Nat.le_of_ble_eq_true rfl, Nat.le_of_ble_eq_true rfl, cdD_putTrial, lkD_320, imD_putTrial, slD_putTrial, inD_putTrial, pmD_putTrial⟩, List.forall_mem_cons.mpr ⟨⟨_, _, _, _, _, _, _, SLn_refusal, rfl, rfl, Nat.le_of_ble_eq_true rfl, Nat.le_of_ble_eq_true rfl, cdLn_refusal, lkD_352, imLn_refusal, slLn_refusal, inLn_refusal, pmLn_refusal⟩, fun _ h => absurd h List.not_mem_nil⟩⟩⟩) XST_D_ok
def wD_change (f : Nat → Int32 → XH → XR) : List Value → List Value → XH → XR := fun vs st h => match vs, st with
  | [.ref a0, .int x1], [] => f a0 x1 h
  | _, _ => none
set_option maxRecDepth 100000 in
theorem eD_change (a0 : Nat) (x1 : Int32) (h : XH) : qD_change a0 x1 h = xrun BD_change (xfind []) 23 0 (List.zip [0, 1] [.ref a0, .int x1]) [] h := rfl
theorem tD_change : XTo cX8_change 3 RX8 1 5 128 0 [0, 1] (wD_change (qD_change)) := by
  refine XTo.run (B := BD_change) (cut := xfind []) kD_change (xcuts_ok (fun _ h => absurd h List.not_mem_nil)) 23 (fun vs st h r hr => ?_)
  unfold wD_change at hr
  split at hr
  · exact (eD_change _ _ _).symm.trans hr
  · cases hr
def FD_change : List Value → XH → XR := fun vs h => match vs with
  | [.ref a0, .int x1] => qD_change a0 x1 h
  | _ => none
theorem SD_change : XS yX8_change cX8_change 3 (some .int) (xrm 5 128) FD_change := by
  refine XS.of (own := RX8) (by decide) rfl (rk := 1) rfl (tD_change) (fun vs h r hr => ?_)
  unfold FD_change at hr
  split at hr
  · exact ⟨rfl, Nat.le_of_ble_eq_true rfl, hr⟩
  · cases hr
-- LineDiagram.moveBend(IIII)I
def rD_moveBend : List (Nat × XRow) := [(0, (.aload_n 0, 1, 0, .null, [])),
  (1, (.iload_n 1, 2, 1, .null, [])),
  (2, (.iload_n 2, 3, 2, .null, [])),
  (3, (.iload_n 3, 4, 3, .null, [])),
  (4, (.iload 4, 6, 4, .null, [])),
  (6, (.invokevirtual 107, 9, 107, .null, [])),
  (9, (.istore 5, 11, 5, .null, [])),
  (11, (.iload 5, 13, 5, .null, [])),
  (13, (.ifCond .ge 8, 16, 21, .null, [])),
  (16, (.iload 5, 18, 5, .null, [])),
  (18, (.goto 8, 21, 26, .null, [])),
  (21, (.aload_n 0, 22, 0, .null, [])),
  (22, (.iload_n 1, 23, 1, .null, [])),
  (23, (.invokevirtual 111, 26, 111, .null, [])),
  (26, (.ireturn, 27, 0, .null, []))]
def mD_moveBend : List (Nat × XM) := [(107, (5, 1, some 8, FD_tryMove)), (111, (2, 1, some 8, FD_change))]
abbrev BD_moveBend : XB := (rD_moveBend, XFT_D, mD_moveBend, 1, XST_D)
set_option maxRecDepth 100000 in
theorem kD_moveBend : XOK BD_moveBend cX8_moveBend 6 RX8 6 150 := xok_of (cps := []) (K := XKT_D) (by decide +kernel) XKT_D_ok (fun _ h => absurd h List.not_mem_nil) XFT_D_ok (List.forall_mem_cons.mpr ⟨⟨_, _, _, _, _, _, _, SD_tryMove, rfl, rfl, Nat.le_of_ble_eq_true rfl, Nat.le_of_ble_eq_true rfl, cdD_tryMove, lkD_107, imD_tryMove, slD_tryMove, inD_tryMove, pmD_tryMove⟩, List.forall_mem_cons.mpr ⟨⟨_, _, _, _, _, _, _, SD_change, rfl, rfl, Nat.le_of_ble_eq_true rfl, Nat.le_of_ble_eq_true rfl, cdD_change, lkD_111, imD_change, slD_change, inD_change, pmD_change⟩, fun _ h => absurd h List.not_mem_nil⟩⟩) XST_D_ok
def wD_moveBend (f : Nat → Int32 → Int32 → Int32 → Int32 → XH → XR) : List Value → List Value → XH → XR := fun vs st h => match vs, st with
  | [.ref a0, .int x1, .int x2, .int x3, .int x4], [] => f a0 x1 x2 x3 x4 h
  | _, _ => none
set_option maxRecDepth 100000 in
theorem eD_moveBend (a0 : Nat) (x1 : Int32) (x2 : Int32) (x3 : Int32) (x4 : Int32) (h : XH) : qD_moveBend a0 x1 x2 x3 x4 h = xrun BD_moveBend (xfind []) 18 0 (List.zip [0, 1, 2, 3, 4] [.ref a0, .int x1, .int x2, .int x3, .int x4]) [] h := rfl
theorem tD_moveBend : XTo cX8_moveBend 6 RX8 1 6 150 0 [0, 1, 2, 3, 4] (wD_moveBend (qD_moveBend)) := by
  refine XTo.run (B := BD_moveBend) (cut := xfind []) kD_moveBend (xcuts_ok (fun _ h => absurd h List.not_mem_nil)) 18 (fun vs st h r hr => ?_)
  unfold wD_moveBend at hr
  split at hr
  · exact (eD_moveBend _ _ _ _ _ _).symm.trans hr
  · cases hr
def FD_moveBend : List Value → XH → XR := fun vs h => match vs with
  | [.ref a0, .int x1, .int x2, .int x3, .int x4] => qD_moveBend a0 x1 x2 x3 x4 h
  | _ => none
theorem SD_moveBend : XS yX8_moveBend cX8_moveBend 6 (some .int) (xrm 6 150) FD_moveBend := by
  refine XS.of (own := RX8) (by decide) rfl (rk := 1) rfl (tD_moveBend) (fun vs h r hr => ?_)
  unfold FD_moveBend at hr
  split at hr
  · exact ⟨rfl, Nat.le_of_ble_eq_true rfl, hr⟩
  · cases hr
-- LineDiagramModel.of(II)I
def rM_of : List (Nat × XRow) := [(0, (.aload_n 0, 1, 0, .null, [])),
  (1, (.getfield 21, 4, 21, .null, [])),
  (4, (.bipush 23, 6, 0, .int (23 : Int32), [])),
  (6, (.iload_n 1, 7, 1, .null, [])),
  (7, (.imul, 8, 0, .null, [])),
  (8, (.iload_n 2, 9, 2, .null, [])),
  (9, (.iadd, 10, 0, .null, [])),
  (10, (.iaload, 11, 0, .null, [])),
  (11, (.ireturn, 12, 0, .null, []))]
def mM_of : List (Nat × XM) := []
abbrev BM_of : XB := (rM_of, XFT_M, mM_of, 1, XST_M)
set_option maxRecDepth 100000 in
theorem kM_of : XOK BM_of cX9_of 3 RX9 0 0 := xok_of (cps := []) (K := XKT_M) (by decide +kernel) XKT_M_ok (fun _ h => absurd h List.not_mem_nil) XFT_M_ok (fun _ h => absurd h List.not_mem_nil) XST_M_ok
def wM_of (f : Nat → Int32 → Int32 → XH → XR) : List Value → List Value → XH → XR := fun vs st h => match vs, st with
  | [.ref a0, .int x1, .int x2], [] => f a0 x1 x2 h
  | _, _ => none
set_option maxRecDepth 100000 in
theorem eM_of (a0 : Nat) (x1 : Int32) (x2 : Int32) (h : XH) : qM_of a0 x1 x2 h = xrun BM_of (xfind []) 12 0 (List.zip [0, 1, 2] [.ref a0, .int x1, .int x2]) [] h := rfl
theorem tM_of : XTo cX9_of 3 RX9 1 0 0 0 [0, 1, 2] (wM_of (qM_of)) := by
  refine XTo.run (B := BM_of) (cut := xfind []) kM_of (xcuts_ok (fun _ h => absurd h List.not_mem_nil)) 12 (fun vs st h r hr => ?_)
  unfold wM_of at hr
  split at hr
  · exact (eM_of _ _ _ _).symm.trans hr
  · cases hr
def FM_of : List Value → XH → XR := fun vs h => match vs with
  | [.ref a0, .int x1, .int x2] => qM_of a0 x1 x2 h
  | _ => none
theorem SM_of : XS yX9_of cX9_of 3 (some .int) (xrm 0 0) FM_of := by
  refine XS.of (own := RX9) (by decide) rfl (rk := 1) rfl (tM_of) (fun vs h r hr => ?_)
  unfold FM_of at hr
  split at hr
  · exact ⟨rfl, Nat.le_of_ble_eq_true rfl, hr⟩
  · cases hr
-- LineDiagramModel.px(II)I
def rM_px : List (Nat × XRow) := [(0, (.aload_n 0, 1, 0, .null, [])),
  (1, (.iload_n 1, 2, 1, .null, [])),
  (2, (.iconst 3, 3, 0, .int (3 : Int32), [])),
  (3, (.iconst 2, 4, 0, .int (2 : Int32), [])),
  (4, (.iload_n 2, 5, 2, .null, [])),
  (5, (.imul, 6, 0, .null, [])),
  (6, (.iadd, 7, 0, .null, [])),
  (7, (.invokevirtual 88, 10, 88, .null, [])),
  (10, (.ireturn, 11, 0, .null, []))]
def mM_px : List (Nat × XM) := [(88, (3, 1, some 9, FM_of))]
abbrev BM_px : XB := (rM_px, XFT_M, mM_px, 1, XST_M)
set_option maxRecDepth 100000 in
theorem kM_px : XOK BM_px cX9_px 3 RX9 1 22 := xok_of (cps := []) (K := XKT_M) (by decide +kernel) XKT_M_ok (fun _ h => absurd h List.not_mem_nil) XFT_M_ok (List.forall_mem_cons.mpr ⟨⟨_, _, _, _, _, _, _, SM_of, rfl, rfl, Nat.le_of_ble_eq_true rfl, Nat.le_of_ble_eq_true rfl, cdM_of, lkM_88, imM_of, slM_of, inM_of, pmM_of⟩, fun _ h => absurd h List.not_mem_nil⟩) XST_M_ok
def wM_px (f : Nat → Int32 → Int32 → XH → XR) : List Value → List Value → XH → XR := fun vs st h => match vs, st with
  | [.ref a0, .int x1, .int x2], [] => f a0 x1 x2 h
  | _, _ => none
set_option maxRecDepth 100000 in
theorem eM_px (a0 : Nat) (x1 : Int32) (x2 : Int32) (h : XH) : qM_px a0 x1 x2 h = xrun BM_px (xfind []) 12 0 (List.zip [0, 1, 2] [.ref a0, .int x1, .int x2]) [] h := rfl
theorem tM_px : XTo cX9_px 3 RX9 1 1 22 0 [0, 1, 2] (wM_px (qM_px)) := by
  refine XTo.run (B := BM_px) (cut := xfind []) kM_px (xcuts_ok (fun _ h => absurd h List.not_mem_nil)) 12 (fun vs st h r hr => ?_)
  unfold wM_px at hr
  split at hr
  · exact (eM_px _ _ _ _).symm.trans hr
  · cases hr
def FM_px : List Value → XH → XR := fun vs h => match vs with
  | [.ref a0, .int x1, .int x2] => qM_px a0 x1 x2 h
  | _ => none
theorem SM_px : XS yX9_px cX9_px 3 (some .int) (xrm 1 22) FM_px := by
  refine XS.of (own := RX9) (by decide) rfl (rk := 1) rfl (tM_px) (fun vs h r hr => ?_)
  unfold FM_px at hr
  split at hr
  · exact ⟨rfl, Nat.le_of_ble_eq_true rfl, hr⟩
  · cases hr
