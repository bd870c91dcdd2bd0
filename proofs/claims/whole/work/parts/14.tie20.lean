-- LineDiagram$Board.nearestPlace(II)I
def rB_nearestPlace : List (Nat × XRow) := [(0, (.bipush (-2), 2, 0, .int (-2 : Int32), [])),
  (2, (.istore_n 3, 3, 3, .null, [])),
  (3, (.bipush 40, 5, 0, .int (40 : Int32), [])),
  (5, (.istore 4, 7, 4, .null, [])),
  (7, (.iconst 0, 8, 0, .int (0 : Int32), [])),
  (8, (.istore 5, 10, 5, .null, [])),
  (10, (.iload 5, 12, 5, .null, [])),
  (12, (.sipush 1600, 15, 0, .int (1600 : Int32), [])),
  (15, (.if_icmp .ge 61, 18, 76, .null, [])),
  (18, (.aload_n 0, 19, 0, .null, [])),
  (19, (.getfield 18, 22, 18, .null, [])),
  (22, (.iload 5, 24, 5, .null, [])),
  (24, (.iaload, 25, 0, .null, [])),
  (25, (.ifCond .le 45, 28, 70, .null, [])),
  (28, (.iload 5, 30, 5, .null, [])),
  (30, (.invokestatic 147, 33, 147, .null, [])),
  (33, (.iload_n 1, 34, 1, .null, [])),
  (34, (.isub, 35, 0, .null, [])),
  (35, (.invokestatic 150, 38, 150, .int (1 : Int32), [])),
  (38, (.iload 5, 40, 5, .null, [])),
  (40, (.invokestatic 153, 43, 153, .null, [])),
  (43, (.iload_n 2, 44, 2, .null, [])),
  (44, (.isub, 45, 0, .null, [])),
  (45, (.invokestatic 150, 48, 150, .int (1 : Int32), [])),
  (48, (.invokestatic 112, 51, 112, .int (2 : Int32), [])),
  (51, (.istore 6, 53, 6, .null, [])),
  (53, (.iload 6, 55, 6, .null, [])),
  (55, (.iload 4, 57, 4, .null, [])),
  (57, (.if_icmp .ge 13, 60, 70, .null, [])),
  (60, (.iload 6, 62, 6, .null, [])),
  (62, (.istore 4, 64, 4, .null, [])),
  (64, (.iload 5, 66, 5, .null, [])),
  (66, (.invokestatic 138, 69, 138, .null, [])),
  (69, (.istore_n 3, 70, 3, .null, [])),
  (70, (.iinc 5 1, 73, 5, .int (1 : Int32), [])),
  (73, (.goto (-63), 76, 10, .null, [])),
  (76, (.iload_n 3, 77, 3, .null, [])),
  (77, (.ireturn, 78, 0, .null, []))]
def mB_nearestPlace : List (Nat × XM) := [(138, (1, 1, none, FD_codeOf)), (147, (1, 1, none, FD_columnOf)), (153, (1, 1, none, FD_rowOf))]
abbrev BB_nearestPlace : XB := (rB_nearestPlace, XFT_B, mB_nearestPlace, 1, XST_B)
set_option maxRecDepth 100000 in
theorem kB_nearestPlace : XOK BB_nearestPlace cX0_nearestPlace 7 RX0 2 40 := xok_of (cps := [(112, 2), (150, 1)]) (K := XKT_B) (by decide +kernel) XKT_B_ok (List.forall_mem_cons.mpr ⟨lkB_cp112 _ _ (Nat.le_of_ble_eq_true rfl) (Nat.le_of_ble_eq_true rfl), List.forall_mem_cons.mpr ⟨lkB_cp150 _ _ (Nat.le_of_ble_eq_true rfl) (Nat.le_of_ble_eq_true rfl), fun _ h => absurd h List.not_mem_nil⟩⟩) XFT_B_ok (List.forall_mem_cons.mpr ⟨⟨_, _, _, _, _, _, SD_codeOf, Nat.le_of_ble_eq_true rfl, Nat.le_of_ble_eq_true rfl, cdD_codeOf, lkB_138, imD_codeOf, inD_codeOf, pmD_codeOf⟩, List.forall_mem_cons.mpr ⟨⟨_, _, _, _, _, _, SD_columnOf, Nat.le_of_ble_eq_true rfl, Nat.le_of_ble_eq_true rfl, cdD_columnOf, lkB_147, imD_columnOf, inD_columnOf, pmD_columnOf⟩, List.forall_mem_cons.mpr ⟨⟨_, _, _, _, _, _, SD_rowOf, Nat.le_of_ble_eq_true rfl, Nat.le_of_ble_eq_true rfl, cdD_rowOf, lkB_153, imD_rowOf, inD_rowOf, pmD_rowOf⟩, fun _ h => absurd h List.not_mem_nil⟩⟩⟩) XST_B_ok
def wB_nearestPlace_10 (f : Nat → Int32 → Int32 → Int32 → Int32 → Int32 → XH → XR) : List Value → List Value → XH → XR := fun vs st h => match vs, st with
  | [.ref a0, .int x1, .int x2, .int x3, .int x4, .int x5], [] => f a0 x1 x2 x3 x4 x5 h
  | _, _ => none
def wB_nearestPlace (f : Nat → Int32 → Int32 → XH → XR) : List Value → List Value → XH → XR := fun vs st h => match vs, st with
  | [.ref a0, .int x1, .int x2], [] => f a0 x1 x2 h
  | _, _ => none
set_option maxRecDepth 100000 in
theorem eB_nearestPlace_10_b (k10 : Nat → Int32 → Int32 → Int32 → Int32 → Int32 → XH → XR) (a0 : Nat) (x1 : Int32) (x2 : Int32) (x3 : Int32) (x4 : Int32) (x5 : Int32) (h : XH) : qB_nearestPlace_10_b k10 a0 x1 x2 x3 x4 x5 h = xrun BB_nearestPlace (xfind [(10, ([0, 1, 2, 3, 4, 5], wB_nearestPlace_10 (k10)))]) 41 10 (List.zip [0, 1, 2, 3, 4, 5] [.ref a0, .int x1, .int x2, .int x3, .int x4, .int x5]) [] h := rfl
theorem tB_nearestPlace_10_b {k10 : Nat → Int32 → Int32 → Int32 → Int32 → Int32 → XH → XR} (hk10 : XTo cX0_nearestPlace 7 RX0 1 2 40 10 [0, 1, 2, 3, 4, 5] (wB_nearestPlace_10 k10)) : XTo cX0_nearestPlace 7 RX0 1 2 40 10 [0, 1, 2, 3, 4, 5] (wB_nearestPlace_10 (qB_nearestPlace_10_b k10)) := by
  refine XTo.run (B := BB_nearestPlace) (cut := xfind [(10, ([0, 1, 2, 3, 4, 5], wB_nearestPlace_10 (k10)))]) kB_nearestPlace (xcuts_ok (List.forall_mem_cons.mpr ⟨hk10, fun _ h => absurd h List.not_mem_nil⟩)) 41 (fun vs st h r hr => ?_)
  unfold wB_nearestPlace_10 at hr
  split at hr
  · exact (eB_nearestPlace_10_b k10 _ _ _ _ _ _ _).symm.trans hr
  · cases hr
theorem tB_nearestPlace_10 : ∀ n : Nat, XTo cX0_nearestPlace 7 RX0 1 2 40 10 [0, 1, 2, 3, 4, 5] (wB_nearestPlace_10 (qB_nearestPlace_10 n)) := by
  intro n
  induction n with
  | zero =>
    refine XTo.none fun vs st h => ?_
    unfold wB_nearestPlace_10
    split <;> rfl
  | succ n ih => exact tB_nearestPlace_10_b  ih
set_option maxRecDepth 100000 in
theorem eB_nearestPlace (a0 : Nat) (x1 : Int32) (x2 : Int32) (h : XH) : qB_nearestPlace a0 x1 x2 h = xrun BB_nearestPlace (xfind [(10, ([0, 1, 2, 3, 4, 5], wB_nearestPlace_10 (qB_nearestPlace_10 LF)))]) 41 0 (List.zip [0, 1, 2] [.ref a0, .int x1, .int x2]) [] h := rfl
theorem tB_nearestPlace : XTo cX0_nearestPlace 7 RX0 1 2 40 0 [0, 1, 2] (wB_nearestPlace (qB_nearestPlace)) := by
  refine XTo.run (B := BB_nearestPlace) (cut := xfind [(10, ([0, 1, 2, 3, 4, 5], wB_nearestPlace_10 (qB_nearestPlace_10 LF)))]) kB_nearestPlace (xcuts_ok (List.forall_mem_cons.mpr ⟨tB_nearestPlace_10 LF, fun _ h => absurd h List.not_mem_nil⟩)) 41 (fun vs st h r hr => ?_)
  unfold wB_nearestPlace at hr
  split at hr
  · exact (eB_nearestPlace _ _ _ _).symm.trans hr
  · cases hr
def FB_nearestPlace : List Value → XH → XR := fun vs h => match vs with
  | [.ref a0, .int x1, .int x2] => qB_nearestPlace a0 x1 x2 h
  | _ => none
theorem SB_nearestPlace : XS yX0_nearestPlace cX0_nearestPlace 7 (some .int) (xrm 2 40) FB_nearestPlace := by
  refine XS.of (own := RX0) (by decide) rfl (rk := 1) rfl (tB_nearestPlace) (fun vs h r hr => ?_)
  unfold FB_nearestPlace at hr
  split at hr
  · exact ⟨rfl, Nat.le_of_ble_eq_true rfl, hr⟩
  · cases hr
-- LineDiagram.nearest(II)I
def rD_nearest : List (Nat × XRow) := [(0, (.aload_n 0, 1, 0, .null, [])),
  (1, (.iload_n 1, 2, 1, .null, [])),
  (2, (.iload_n 2, 3, 2, .null, [])),
  (3, (.invokevirtual 119, 6, 119, .null, [])),
  (6, (.ifCond .eq 15, 9, 21, .null, [])),
  (9, (.aload_n 0, 10, 0, .null, [])),
  (10, (.getfield 54, 13, 54, .null, [])),
  (13, (.iload_n 1, 14, 1, .null, [])),
  (14, (.iload_n 2, 15, 2, .null, [])),
  (15, (.invokevirtual 294, 18, 294, .null, [])),
  (18, (.goto 4, 21, 22, .null, [])),
  (21, (.iconst (-1), 22, 0, .int (-1 : Int32), [])),
  (22, (.ireturn, 23, 0, .null, []))]
def mD_nearest : List (Nat × XM) := [(119, (3, 1, some 8, FD_isCell)), (294, (3, 1, some 0, FB_nearestPlace))]
abbrev BD_nearest : XB := (rD_nearest, XFT_D, mD_nearest, 1, XST_D)
set_option maxRecDepth 100000 in
theorem kD_nearest : XOK BD_nearest cX8_nearest 3 RX8 3 66 := xok_of (cps := []) (K := XKT_D) (by decide +kernel) XKT_D_ok (fun _ h => absurd h List.not_mem_nil) XFT_D_ok (List.forall_mem_cons.mpr ⟨⟨_, _, _, _, _, _, _, SD_isCell, rfl, rfl, Nat.le_of_ble_eq_true rfl, Nat.le_of_ble_eq_true rfl, cdD_isCell, lkD_119, imD_isCell, slD_isCell, inD_isCell, pmD_isCell⟩, List.forall_mem_cons.mpr ⟨⟨_, _, _, _, _, _, _, SB_nearestPlace, rfl, rfl, Nat.le_of_ble_eq_true rfl, Nat.le_of_ble_eq_true rfl, cdB_nearestPlace, lkD_294, imB_nearestPlace, slB_nearestPlace, inB_nearestPlace, pmB_nearestPlace⟩, fun _ h => absurd h List.not_mem_nil⟩⟩) XST_D_ok
def wD_nearest (f : Nat → Int32 → Int32 → XH → XR) : List Value → List Value → XH → XR := fun vs st h => match vs, st with
  | [.ref a0, .int x1, .int x2], [] => f a0 x1 x2 h
  | _, _ => none
set_option maxRecDepth 100000 in
theorem eD_nearest (a0 : Nat) (x1 : Int32) (x2 : Int32) (h : XH) : qD_nearest a0 x1 x2 h = xrun BD_nearest (xfind []) 16 0 (List.zip [0, 1, 2] [.ref a0, .int x1, .int x2]) [] h := rfl
theorem tD_nearest : XTo cX8_nearest 3 RX8 1 3 66 0 [0, 1, 2] (wD_nearest (qD_nearest)) := by
  refine XTo.run (B := BD_nearest) (cut := xfind []) kD_nearest (xcuts_ok (fun _ h => absurd h List.not_mem_nil)) 16 (fun vs st h r hr => ?_)
  unfold wD_nearest at hr
  split at hr
  · exact (eD_nearest _ _ _ _).symm.trans hr
  · cases hr
def FD_nearest : List Value → XH → XR := fun vs h => match vs with
  | [.ref a0, .int x1, .int x2] => qD_nearest a0 x1 x2 h
  | _ => none
theorem SD_nearest : XS yX8_nearest cX8_nearest 3 (some .int) (xrm 3 66) FD_nearest := by
  refine XS.of (own := RX8) (by decide) rfl (rk := 1) rfl (tD_nearest) (fun vs h r hr => ?_)
  unfold FD_nearest at hr
  split at hr
  · exact ⟨rfl, Nat.le_of_ble_eq_true rfl, hr⟩
  · cases hr
-- LineDiagramModel.told(I)I
def rM_told : List (Nat × XRow) := [(0, (.iload_n 0, 1, 0, .null, [])),
  (1, (.ifCond .ge 8, 4, 9, .null, [])),
  (4, (.bipush (-2), 6, 0, .int (-2 : Int32), [])),
  (6, (.goto 15, 9, 21, .null, [])),
  (9, (.bipush 64, 11, 0, .int (64 : Int32), [])),
  (11, (.iload_n 0, 12, 0, .null, [])),
  (12, (.bipush 40, 14, 0, .int (40 : Int32), [])),
  (14, (.idiv, 15, 0, .null, [])),
  (15, (.imul, 16, 0, .null, [])),
  (16, (.iload_n 0, 17, 0, .null, [])),
  (17, (.bipush 40, 19, 0, .int (40 : Int32), [])),
  (19, (.irem, 20, 0, .null, [])),
  (20, (.iadd, 21, 0, .null, [])),
  (21, (.ireturn, 22, 0, .null, []))]
def mM_told : List (Nat × XM) := []
abbrev BM_told : XB := (rM_told, XFT_M, mM_told, 1, XST_M)
set_option maxRecDepth 100000 in
theorem kM_told : XOK BM_told cX9_told 1 RX9 0 0 := xok_of (cps := []) (K := XKT_M) (by decide +kernel) XKT_M_ok (fun _ h => absurd h List.not_mem_nil) XFT_M_ok (fun _ h => absurd h List.not_mem_nil) XST_M_ok
def wM_told (f : Int32 → XH → XR) : List Value → List Value → XH → XR := fun vs st h => match vs, st with
  | [.int x0], [] => f x0 h
  | _, _ => none
set_option maxRecDepth 100000 in
theorem eM_told (x0 : Int32) (h : XH) : qM_told x0 h = xrun BM_told (xfind []) 17 0 (List.zip [0] [.int x0]) [] h := rfl
theorem tM_told : XTo cX9_told 1 RX9 1 0 0 0 [0] (wM_told (qM_told)) := by
  refine XTo.run (B := BM_told) (cut := xfind []) kM_told (xcuts_ok (fun _ h => absurd h List.not_mem_nil)) 17 (fun vs st h r hr => ?_)
  unfold wM_told at hr
  split at hr
  · exact (eM_told _ _).symm.trans hr
  · cases hr
def FM_told : List Value → XH → XR := fun vs h => match vs with
  | [.int x0] => qM_told x0 h
  | _ => none
theorem SM_told : XS yX9_told cX9_told 1 (some .int) (xrm 0 0) FM_told := by
  refine XS.of (own := RX9) (by decide) rfl (rk := 1) rfl (tM_told) (fun vs h r hr => ?_)
  unfold FM_told at hr
  split at hr
  · exact ⟨rfl, Nat.le_of_ble_eq_true rfl, hr⟩
  · cases hr
-- LineDiagramModel.nearest(II)I
def rM_nearest : List (Nat × XRow) := [(0, (.aload_n 0, 1, 0, .null, [])),
  (1, (.iload_n 1, 2, 1, .null, [])),
  (2, (.iload_n 2, 3, 2, .null, [])),
  (3, (.invokevirtual 346, 6, 346, .null, [])),
  (6, (.ifCond .ne 5, 9, 11, .null, [])),
  (9, (.iconst (-1), 10, 0, .int (-1 : Int32), [])),
  (10, (.ireturn, 11, 0, .null, [])),
  (11, (.aload_n 0, 12, 0, .null, [])),
  (12, (.invokevirtual 380, 15, 380, .null, [])),
  (15, (.bipush (-2), 17, 0, .int (-2 : Int32), [])),
  (17, (.istore_n 3, 18, 3, .null, [])),
  (18, (.ldc_w 442, 21, 442, .int (1000000 : Int32), [])),
  (21, (.istore 4, 23, 4, .null, [])),
  (23, (.iconst 0, 24, 0, .int (0 : Int32), [])),
  (24, (.istore 5, 26, 5, .null, [])),
  (26, (.iload 5, 28, 5, .null, [])),
  (28, (.sipush 1600, 31, 0, .int (1600 : Int32), [])),
  (31, (.if_icmp .ge 72, 34, 103, .null, [])),
  (34, (.iload 5, 36, 5, .null, [])),
  (36, (.bipush 40, 38, 0, .int (40 : Int32), [])),
  (38, (.irem, 39, 0, .null, [])),
  (39, (.iload_n 1, 40, 1, .null, [])),
  (40, (.isub, 41, 0, .null, [])),
  (41, (.invokestatic 107, 44, 107, .null, [])),
  (44, (.istore 6, 46, 6, .null, [])),
  (46, (.iload 5, 48, 5, .null, [])),
  (48, (.bipush 40, 50, 0, .int (40 : Int32), [])),
  (50, (.idiv, 51, 0, .null, [])),
  (51, (.iload_n 2, 52, 2, .null, [])),
  (52, (.isub, 53, 0, .null, [])),
  (53, (.invokestatic 107, 56, 107, .null, [])),
  (56, (.istore 7, 58, 7, .null, [])),
  (58, (.iload 6, 60, 6, .null, [])),
  (60, (.iload 7, 62, 7, .null, [])),
  (62, (.if_icmp .le 8, 65, 70, .null, [])),
  (65, (.iload 6, 67, 6, .null, [])),
  (67, (.goto 5, 70, 72, .null, [])),
  (70, (.iload 7, 72, 7, .null, [])),
  (72, (.istore 8, 74, 8, .null, [])),
  (74, (.aload_n 0, 75, 0, .null, [])),
  (75, (.iload 5, 77, 5, .null, [])),
  (77, (.invokevirtual 196, 80, 196, .null, [])),
  (80, (.ifCond .eq 17, 83, 97, .null, [])),
  (83, (.iload 8, 85, 8, .null, [])),
  (85, (.iload 4, 87, 4, .null, [])),
  (87, (.if_icmp .ge 10, 90, 97, .null, [])),
  (90, (.iload 5, 92, 5, .null, [])),
  (92, (.istore_n 3, 93, 3, .null, [])),
  (93, (.iload 8, 95, 8, .null, [])),
  (95, (.istore 4, 97, 4, .null, [])),
  (97, (.iinc 5 1, 100, 5, .int (1 : Int32), [])),
  (100, (.goto (-74), 103, 26, .null, [])),
  (103, (.iload_n 3, 104, 3, .null, [])),
  (104, (.invokestatic 443, 107, 443, .null, [])),
  (107, (.ireturn, 108, 0, .null, []))]
def mM_nearest : List (Nat × XM) := [(107, (1, 1, none, FM_size)), (196, (2, 1, some 9, FM_isPlace)), (346, (3, 1, some 9, FM_isCell)), (380, (1, 0, some 9, FM_lays)), (443, (1, 1, none, FM_told))]
abbrev BM_nearest : XB := (rM_nearest, XFT_M, mM_nearest, 1, XST_M)
set_option maxRecDepth 100000 in
theorem kM_nearest : XOK BM_nearest cX9_nearest 9 RX9 6 138 := xok_of (cps := []) (K := XKT_M) (by decide +kernel) XKT_M_ok (fun _ h => absurd h List.not_mem_nil) XFT_M_ok (List.forall_mem_cons.mpr ⟨⟨_, _, _, _, _, _, SM_size, Nat.le_of_ble_eq_true rfl, Nat.le_of_ble_eq_true rfl, cdM_size, lkM_107, imM_size, inM_size, pmM_size⟩, List.forall_mem_cons.mpr ⟨⟨_, _, _, _, _, _, _, SM_isPlace, rfl, rfl, Nat.le_of_ble_eq_true rfl, Nat.le_of_ble_eq_true rfl, cdM_isPlace, lkM_196, imM_isPlace, slM_isPlace, inM_isPlace, pmM_isPlace⟩, List.forall_mem_cons.mpr ⟨⟨_, _, _, _, _, _, _, SM_isCell, rfl, rfl, Nat.le_of_ble_eq_true rfl, Nat.le_of_ble_eq_true rfl, cdM_isCell, lkM_346, imM_isCell, slM_isCell, inM_isCell, pmM_isCell⟩, List.forall_mem_cons.mpr ⟨⟨_, _, _, _, _, _, _, SM_lays, rfl, rfl, Nat.le_of_ble_eq_true rfl, Nat.le_of_ble_eq_true rfl, cdM_lays, lkM_380, imM_lays, slM_lays, inM_lays, pmM_lays⟩, List.forall_mem_cons.mpr ⟨⟨_, _, _, _, _, _, SM_told, Nat.le_of_ble_eq_true rfl, Nat.le_of_ble_eq_true rfl, cdM_told, lkM_443, imM_told, inM_told, pmM_told⟩, fun _ h => absurd h List.not_mem_nil⟩⟩⟩⟩⟩) XST_M_ok
def wM_nearest_72 (f : Nat → Int32 → Int32 → Int32 → Int32 → Int32 → Int32 → XH → XR) : List Value → List Value → XH → XR := fun vs st h => match vs, st with
  | [.ref a0, .int x1, .int x2, .int x3, .int x4, .int x5], [.int s0] => f a0 x1 x2 x3 x4 x5 s0 h
  | _, _ => none
def wM_nearest_103 (f : Int32 → XH → XR) : List Value → List Value → XH → XR := fun vs st h => match vs, st with
  | [.int x3], [] => f x3 h
  | _, _ => none
def wM_nearest_26 (f : Nat → Int32 → Int32 → Int32 → Int32 → Int32 → XH → XR) : List Value → List Value → XH → XR := fun vs st h => match vs, st with
  | [.ref a0, .int x1, .int x2, .int x3, .int x4, .int x5], [] => f a0 x1 x2 x3 x4 x5 h
  | _, _ => none
def wM_nearest (f : Nat → Int32 → Int32 → XH → XR) : List Value → List Value → XH → XR := fun vs st h => match vs, st with
  | [.ref a0, .int x1, .int x2], [] => f a0 x1 x2 h
  | _, _ => none
set_option maxRecDepth 100000 in
theorem eM_nearest_72 (k26 : Nat → Int32 → Int32 → Int32 → Int32 → Int32 → XH → XR) (a0 : Nat) (x1 : Int32) (x2 : Int32) (x3 : Int32) (x4 : Int32) (x5 : Int32) (s0 : Int32) (h : XH) : qM_nearest_72 k26 a0 x1 x2 x3 x4 x5 s0 h = xrun BM_nearest (xfind [(26, ([0, 1, 2, 3, 4, 5], wM_nearest_26 (k26)))]) 58 72 (List.zip [0, 1, 2, 3, 4, 5] [.ref a0, .int x1, .int x2, .int x3, .int x4, .int x5]) [.int s0] h := rfl
theorem tM_nearest_72 {k26 : Nat → Int32 → Int32 → Int32 → Int32 → Int32 → XH → XR} (hk26 : XTo cX9_nearest 9 RX9 1 6 138 26 [0, 1, 2, 3, 4, 5] (wM_nearest_26 k26)) : XTo cX9_nearest 9 RX9 1 6 138 72 [0, 1, 2, 3, 4, 5] (wM_nearest_72 (qM_nearest_72 k26)) := by
  refine XTo.run (B := BM_nearest) (cut := xfind [(26, ([0, 1, 2, 3, 4, 5], wM_nearest_26 (k26)))]) kM_nearest (xcuts_ok (List.forall_mem_cons.mpr ⟨hk26, fun _ h => absurd h List.not_mem_nil⟩)) 58 (fun vs st h r hr => ?_)
  unfold wM_nearest_72 at hr
  split at hr
  · exact (eM_nearest_72 k26 _ _ _ _ _ _ _ _).symm.trans hr
  · cases hr
set_option maxRecDepth 100000 in
theorem eM_nearest_103 (x3 : Int32) (h : XH) : qM_nearest_103 x3 h = xrun BM_nearest (xfind []) 58 103 (List.zip [3] [.int x3]) [] h := rfl
theorem tM_nearest_103 : XTo cX9_nearest 9 RX9 1 6 138 103 [3] (wM_nearest_103 (qM_nearest_103)) := by
  refine XTo.run (B := BM_nearest) (cut := xfind []) kM_nearest (xcuts_ok (fun _ h => absurd h List.not_mem_nil)) 58 (fun vs st h r hr => ?_)
  unfold wM_nearest_103 at hr
  split at hr
  · exact (eM_nearest_103 _ _).symm.trans hr
  · cases hr
set_option maxRecDepth 100000 in
theorem eM_nearest_26_b (k26 : Nat → Int32 → Int32 → Int32 → Int32 → Int32 → XH → XR) (a0 : Nat) (x1 : Int32) (x2 : Int32) (x3 : Int32) (x4 : Int32) (x5 : Int32) (h : XH) : qM_nearest_26_b k26 a0 x1 x2 x3 x4 x5 h = xrun BM_nearest (xfind [(72, ([0, 1, 2, 3, 4, 5], wM_nearest_72 (qM_nearest_72 k26))), (103, ([3], wM_nearest_103 (qM_nearest_103)))]) 58 26 (List.zip [0, 1, 2, 3, 4, 5] [.ref a0, .int x1, .int x2, .int x3, .int x4, .int x5]) [] h := rfl
theorem tM_nearest_26_b {k26 : Nat → Int32 → Int32 → Int32 → Int32 → Int32 → XH → XR} (hk26 : XTo cX9_nearest 9 RX9 1 6 138 26 [0, 1, 2, 3, 4, 5] (wM_nearest_26 k26)) : XTo cX9_nearest 9 RX9 1 6 138 26 [0, 1, 2, 3, 4, 5] (wM_nearest_26 (qM_nearest_26_b k26)) := by
  refine XTo.run (B := BM_nearest) (cut := xfind [(72, ([0, 1, 2, 3, 4, 5], wM_nearest_72 (qM_nearest_72 k26))), (103, ([3], wM_nearest_103 (qM_nearest_103)))]) kM_nearest (xcuts_ok (List.forall_mem_cons.mpr ⟨tM_nearest_72 hk26, List.forall_mem_cons.mpr ⟨tM_nearest_103, fun _ h => absurd h List.not_mem_nil⟩⟩)) 58 (fun vs st h r hr => ?_)
  unfold wM_nearest_26 at hr
  split at hr
  · exact (eM_nearest_26_b k26 _ _ _ _ _ _ _).symm.trans hr
  · cases hr
theorem tM_nearest_26 : ∀ n : Nat, XTo cX9_nearest 9 RX9 1 6 138 26 [0, 1, 2, 3, 4, 5] (wM_nearest_26 (qM_nearest_26 n)) := by
  intro n
  induction n with
  | zero =>
    refine XTo.none fun vs st h => ?_
    unfold wM_nearest_26
    split <;> rfl
  | succ n ih => exact tM_nearest_26_b  ih
set_option maxRecDepth 100000 in
theorem eM_nearest (a0 : Nat) (x1 : Int32) (x2 : Int32) (h : XH) : qM_nearest a0 x1 x2 h = xrun BM_nearest (xfind [(26, ([0, 1, 2, 3, 4, 5], wM_nearest_26 (qM_nearest_26 LF)))]) 58 0 (List.zip [0, 1, 2] [.ref a0, .int x1, .int x2]) [] h := rfl
theorem tM_nearest : XTo cX9_nearest 9 RX9 1 6 138 0 [0, 1, 2] (wM_nearest (qM_nearest)) := by
  refine XTo.run (B := BM_nearest) (cut := xfind [(26, ([0, 1, 2, 3, 4, 5], wM_nearest_26 (qM_nearest_26 LF)))]) kM_nearest (xcuts_ok (List.forall_mem_cons.mpr ⟨tM_nearest_26 LF, fun _ h => absurd h List.not_mem_nil⟩)) 58 (fun vs st h r hr => ?_)
  unfold wM_nearest at hr
  split at hr
  · exact (eM_nearest _ _ _ _).symm.trans hr
  · cases hr
def FM_nearest : List Value → XH → XR := fun vs h => match vs with
  | [.ref a0, .int x1, .int x2] => qM_nearest a0 x1 x2 h
  | _ => none
theorem SM_nearest : XS yX9_nearest cX9_nearest 9 (some .int) (xrm 6 138) FM_nearest := by
  refine XS.of (own := RX9) (by decide) rfl (rk := 1) rfl (tM_nearest) (fun vs h r hr => ?_)
  unfold FM_nearest at hr
  split at hr
  · exact ⟨rfl, Nat.le_of_ble_eq_true rfl, hr⟩
  · cases hr
-- LineDiagram$Board.countOfTwo([II)I
def rB_countOfTwo : List (Nat × XRow) := [(0, (.iconst 0, 1, 0, .int (0 : Int32), [])),
  (1, (.istore_n 2, 2, 2, .null, [])),
  (2, (.aload_n 0, 3, 0, .null, [])),
  (3, (.astore_n 3, 4, 3, .null, [])),
  (4, (.aload_n 3, 5, 3, .null, [])),
  (5, (.arraylength, 6, 0, .null, [])),
  (6, (.istore 4, 8, 4, .null, [])),
  (8, (.iconst 0, 9, 0, .int (0 : Int32), [])),
  (9, (.istore 5, 11, 5, .null, [])),
  (11, (.iload 5, 13, 5, .null, [])),
  (13, (.iload 4, 15, 4, .null, [])),
  (15, (.if_icmp .ge 28, 18, 43, .null, [])),
  (18, (.aload_n 3, 19, 3, .null, [])),
  (19, (.iload 5, 21, 5, .null, [])),
  (21, (.iaload, 22, 0, .null, [])),
  (22, (.istore 6, 24, 6, .null, [])),
  (24, (.iload 6, 26, 6, .null, [])),
  (26, (.iload_n 1, 27, 1, .null, [])),
  (27, (.iand, 28, 0, .null, [])),
  (28, (.invokestatic 130, 31, 130, .null, [])),
  (31, (.ifCond .eq 6, 34, 37, .null, [])),
  (34, (.iinc 2 1, 37, 2, .int (1 : Int32), [])),
  (37, (.iinc 5 1, 40, 5, .int (1 : Int32), [])),
  (40, (.goto (-29), 43, 11, .null, [])),
  (43, (.iload_n 2, 44, 2, .null, [])),
  (44, (.ireturn, 45, 0, .null, []))]
def mB_countOfTwo : List (Nat × XM) := [(130, (1, 1, none, FB_isOfTwo))]
abbrev BB_countOfTwo : XB := (rB_countOfTwo, XFT_B, mB_countOfTwo, 1, XST_B)
set_option maxRecDepth 100000 in
theorem kB_countOfTwo : XOK BB_countOfTwo cX0_countOfTwo 7 RX0 1 20 := xok_of (cps := []) (K := XKT_B) (by decide +kernel) XKT_B_ok (fun _ h => absurd h List.not_mem_nil) XFT_B_ok (List.forall_mem_cons.mpr ⟨⟨_, _, _, _, _, _, SB_isOfTwo, Nat.le_of_ble_eq_true rfl, Nat.le_of_ble_eq_true rfl, cdB_isOfTwo, lkB_130, imB_isOfTwo, inB_isOfTwo, pmB_isOfTwo⟩, fun _ h => absurd h List.not_mem_nil⟩) XST_B_ok
def wB_countOfTwo_11 (f : Int32 → Int32 → Nat → Int32 → Int32 → XH → XR) : List Value → List Value → XH → XR := fun vs st h => match vs, st with
  | [.int x1, .int x2, .ref a3, .int x4, .int x5], [] => f x1 x2 a3 x4 x5 h
  | _, _ => none
def wB_countOfTwo (f : Nat → Int32 → XH → XR) : List Value → List Value → XH → XR := fun vs st h => match vs, st with
  | [.ref a0, .int x1], [] => f a0 x1 h
  | _, _ => none
set_option maxRecDepth 100000 in
theorem eB_countOfTwo_11_b (k11 : Int32 → Int32 → Nat → Int32 → Int32 → XH → XR) (x1 : Int32) (x2 : Int32) (a3 : Nat) (x4 : Int32) (x5 : Int32) (h : XH) : qB_countOfTwo_11_b k11 x1 x2 a3 x4 x5 h = xrun BB_countOfTwo (xfind [(11, ([1, 2, 3, 4, 5], wB_countOfTwo_11 (k11)))]) 29 11 (List.zip [1, 2, 3, 4, 5] [.int x1, .int x2, .ref a3, .int x4, .int x5]) [] h := rfl
theorem tB_countOfTwo_11_b {k11 : Int32 → Int32 → Nat → Int32 → Int32 → XH → XR} (hk11 : XTo cX0_countOfTwo 7 RX0 1 1 20 11 [1, 2, 3, 4, 5] (wB_countOfTwo_11 k11)) : XTo cX0_countOfTwo 7 RX0 1 1 20 11 [1, 2, 3, 4, 5] (wB_countOfTwo_11 (qB_countOfTwo_11_b k11)) := by
  refine XTo.run (B := BB_countOfTwo) (cut := xfind [(11, ([1, 2, 3, 4, 5], wB_countOfTwo_11 (k11)))]) kB_countOfTwo (xcuts_ok (List.forall_mem_cons.mpr ⟨hk11, fun _ h => absurd h List.not_mem_nil⟩)) 29 (fun vs st h r hr => ?_)
  unfold wB_countOfTwo_11 at hr
  split at hr
  · exact (eB_countOfTwo_11_b k11 _ _ _ _ _ _).symm.trans hr
  · cases hr
theorem tB_countOfTwo_11 : ∀ n : Nat, XTo cX0_countOfTwo 7 RX0 1 1 20 11 [1, 2, 3, 4, 5] (wB_countOfTwo_11 (qB_countOfTwo_11 n)) := by
  intro n
  induction n with
  | zero =>
    refine XTo.none fun vs st h => ?_
    unfold wB_countOfTwo_11
    split <;> rfl
  | succ n ih => exact tB_countOfTwo_11_b  ih
set_option maxRecDepth 100000 in
theorem eB_countOfTwo (a0 : Nat) (x1 : Int32) (h : XH) : qB_countOfTwo a0 x1 h = xrun BB_countOfTwo (xfind [(11, ([1, 2, 3, 4, 5], wB_countOfTwo_11 (qB_countOfTwo_11 LF)))]) 29 0 (List.zip [0, 1] [.ref a0, .int x1]) [] h := rfl
theorem tB_countOfTwo : XTo cX0_countOfTwo 7 RX0 1 1 20 0 [0, 1] (wB_countOfTwo (qB_countOfTwo)) := by
  refine XTo.run (B := BB_countOfTwo) (cut := xfind [(11, ([1, 2, 3, 4, 5], wB_countOfTwo_11 (qB_countOfTwo_11 LF)))]) kB_countOfTwo (xcuts_ok (List.forall_mem_cons.mpr ⟨tB_countOfTwo_11 LF, fun _ h => absurd h List.not_mem_nil⟩)) 29 (fun vs st h r hr => ?_)
  unfold wB_countOfTwo at hr
  split at hr
  · exact (eB_countOfTwo _ _ _).symm.trans hr
  · cases hr
def FB_countOfTwo : List Value → XH → XR := fun vs h => match vs with
  | [.ref a0, .int x1] => qB_countOfTwo a0 x1 h
  | _ => none
theorem SB_countOfTwo : XS yX0_countOfTwo cX0_countOfTwo 7 (some .int) (xrm 1 20) FB_countOfTwo := by
  refine XS.of (own := RX0) (by decide) rfl (rk := 1) rfl (tB_countOfTwo) (fun vs h r hr => ?_)
  unfold FB_countOfTwo at hr
  split at hr
  · exact ⟨rfl, Nat.le_of_ble_eq_true rfl, hr⟩
  · cases hr
-- LineDiagram$Board.countShared(I)I
def rB_countShared : List (Nat × XRow) := [(0, (.aload_n 0, 1, 0, .null, [])),
  (1, (.getfield 9, 4, 9, .null, [])),
  (4, (.iload_n 1, 5, 1, .null, [])),
  (5, (.invokestatic 126, 8, 126, .null, [])),
  (8, (.ireturn, 9, 0, .null, []))]
def mB_countShared : List (Nat × XM) := [(126, (2, 1, none, FB_countOfTwo))]
abbrev BB_countShared : XB := (rB_countShared, XFT_B, mB_countShared, 1, XST_B)
set_option maxRecDepth 100000 in
theorem kB_countShared : XOK BB_countShared cX0_countShared 2 RX0 2 46 := xok_of (cps := []) (K := XKT_B) (by decide +kernel) XKT_B_ok (fun _ h => absurd h List.not_mem_nil) XFT_B_ok (List.forall_mem_cons.mpr ⟨⟨_, _, _, _, _, _, SB_countOfTwo, Nat.le_of_ble_eq_true rfl, Nat.le_of_ble_eq_true rfl, cdB_countOfTwo, lkB_126, imB_countOfTwo, inB_countOfTwo, pmB_countOfTwo⟩, fun _ h => absurd h List.not_mem_nil⟩) XST_B_ok
def wB_countShared (f : Nat → Int32 → XH → XR) : List Value → List Value → XH → XR := fun vs st h => match vs, st with
  | [.ref a0, .int x1], [] => f a0 x1 h
  | _, _ => none
set_option maxRecDepth 100000 in
theorem eB_countShared (a0 : Nat) (x1 : Int32) (h : XH) : qB_countShared a0 x1 h = xrun BB_countShared (xfind []) 8 0 (List.zip [0, 1] [.ref a0, .int x1]) [] h := rfl
theorem tB_countShared : XTo cX0_countShared 2 RX0 1 2 46 0 [0, 1] (wB_countShared (qB_countShared)) := by
  refine XTo.run (B := BB_countShared) (cut := xfind []) kB_countShared (xcuts_ok (fun _ h => absurd h List.not_mem_nil)) 8 (fun vs st h r hr => ?_)
  unfold wB_countShared at hr
  split at hr
  · exact (eB_countShared _ _ _).symm.trans hr
  · cases hr
def FB_countShared : List Value → XH → XR := fun vs h => match vs with
  | [.ref a0, .int x1] => qB_countShared a0 x1 h
  | _ => none
theorem SB_countShared : XS yX0_countShared cX0_countShared 2 (some .int) (xrm 2 46) FB_countShared := by
  refine XS.of (own := RX0) (by decide) rfl (rk := 1) rfl (tB_countShared) (fun vs h r hr => ?_)
  unfold FB_countShared at hr
  split at hr
  · exact ⟨rfl, Nat.le_of_ble_eq_true rfl, hr⟩
  · cases hr
-- LineDiagram$Board.countSharedPlaces(I)I
def rB_countSharedPlaces : List (Nat × XRow) := [(0, (.aload_n 0, 1, 0, .null, [])),
  (1, (.getfield 21, 4, 21, .null, [])),
  (4, (.iload_n 1, 5, 1, .null, [])),
  (5, (.invokestatic 126, 8, 126, .null, [])),
  (8, (.ireturn, 9, 0, .null, []))]
def mB_countSharedPlaces : List (Nat × XM) := [(126, (2, 1, none, FB_countOfTwo))]
abbrev BB_countSharedPlaces : XB := (rB_countSharedPlaces, XFT_B, mB_countSharedPlaces, 1, XST_B)
set_option maxRecDepth 100000 in
theorem kB_countSharedPlaces : XOK BB_countSharedPlaces cX0_countSharedPlaces 2 RX0 2 46 := xok_of (cps := []) (K := XKT_B) (by decide +kernel) XKT_B_ok (fun _ h => absurd h List.not_mem_nil) XFT_B_ok (List.forall_mem_cons.mpr ⟨⟨_, _, _, _, _, _, SB_countOfTwo, Nat.le_of_ble_eq_true rfl, Nat.le_of_ble_eq_true rfl, cdB_countOfTwo, lkB_126, imB_countOfTwo, inB_countOfTwo, pmB_countOfTwo⟩, fun _ h => absurd h List.not_mem_nil⟩) XST_B_ok
def wB_countSharedPlaces (f : Nat → Int32 → XH → XR) : List Value → List Value → XH → XR := fun vs st h => match vs, st with
  | [.ref a0, .int x1], [] => f a0 x1 h
  | _, _ => none
set_option maxRecDepth 100000 in
theorem eB_countSharedPlaces (a0 : Nat) (x1 : Int32) (h : XH) : qB_countSharedPlaces a0 x1 h = xrun BB_countSharedPlaces (xfind []) 8 0 (List.zip [0, 1] [.ref a0, .int x1]) [] h := rfl
theorem tB_countSharedPlaces : XTo cX0_countSharedPlaces 2 RX0 1 2 46 0 [0, 1] (wB_countSharedPlaces (qB_countSharedPlaces)) := by
  refine XTo.run (B := BB_countSharedPlaces) (cut := xfind []) kB_countSharedPlaces (xcuts_ok (fun _ h => absurd h List.not_mem_nil)) 8 (fun vs st h r hr => ?_)
  unfold wB_countSharedPlaces at hr
  split at hr
  · exact (eB_countSharedPlaces _ _ _).symm.trans hr
  · cases hr
def FB_countSharedPlaces : List Value → XH → XR := fun vs h => match vs with
  | [.ref a0, .int x1] => qB_countSharedPlaces a0 x1 h
  | _ => none
theorem SB_countSharedPlaces : XS yX0_countSharedPlaces cX0_countSharedPlaces 2 (some .int) (xrm 2 46) FB_countSharedPlaces := by
  refine XS.of (own := RX0) (by decide) rfl (rk := 1) rfl (tB_countSharedPlaces) (fun vs h r hr => ?_)
  unfold FB_countSharedPlaces at hr
  split at hr
  · exact ⟨rfl, Nat.le_of_ble_eq_true rfl, hr⟩
  · cases hr
-- LineDiagram.both(III)I
def rD_both : List (Nat × XRow) := [(0, (.aload_n 0, 1, 0, .null, [])),
  (1, (.iload_n 1, 2, 1, .null, [])),
  (2, (.invokevirtual 115, 5, 115, .null, [])),
  (5, (.ifCond .eq 16, 8, 21, .null, [])),
  (8, (.aload_n 0, 9, 0, .null, [])),
  (9, (.iload_n 2, 10, 2, .null, [])),
  (10, (.invokevirtual 115, 13, 115, .null, [])),
  (13, (.ifCond .eq 8, 16, 21, .null, [])),
  (16, (.iload_n 1, 17, 1, .null, [])),
  (17, (.iload_n 2, 18, 2, .null, [])),
  (18, (.if_icmp .ne 5, 21, 23, .null, [])),
  (21, (.iconst (-1), 22, 0, .int (-1 : Int32), [])),
  (22, (.ireturn, 23, 0, .null, [])),
  (23, (.iconst 1, 24, 0, .int (1 : Int32), [])),
  (24, (.iload_n 1, 25, 1, .null, [])),
  (25, (.ishl, 26, 0, .null, [])),
  (26, (.iconst 1, 27, 0, .int (1 : Int32), [])),
  (27, (.iload_n 2, 28, 2, .null, [])),
  (28, (.ishl, 29, 0, .null, [])),
  (29, (.ior, 30, 0, .null, [])),
  (30, (.istore 4, 32, 4, .null, [])),
  (32, (.iload_n 3, 33, 3, .null, [])),
  (33, (.tableswitch 85 0 4 #[35, 45, 55, 65, 75], 68, 118, .null, [((0 : Int32), 68), ((1 : Int32), 78), ((2 : Int32), 88), ((3 : Int32), 98), ((4 : Int32), 108)])),
  (68, (.aload_n 0, 69, 0, .null, [])),
  (69, (.getfield 54, 72, 54, .null, [])),
  (72, (.iload 4, 74, 4, .null, [])),
  (74, (.invokevirtual 297, 77, 297, .null, [])),
  (77, (.ireturn, 78, 0, .null, [])),
  (78, (.aload_n 0, 79, 0, .null, [])),
  (79, (.getfield 54, 82, 54, .null, [])),
  (82, (.iload 4, 84, 4, .null, [])),
  (84, (.invokevirtual 300, 87, 300, .null, [])),
  (87, (.ireturn, 88, 0, .null, [])),
  (88, (.aload_n 0, 89, 0, .null, [])),
  (89, (.getfield 54, 92, 54, .null, [])),
  (92, (.iload 4, 94, 4, .null, [])),
  (94, (.invokevirtual 230, 97, 230, .null, [])),
  (97, (.ireturn, 98, 0, .null, [])),
  (98, (.aload_n 0, 99, 0, .null, [])),
  (99, (.getfield 54, 102, 54, .null, [])),
  (102, (.iload 4, 104, 4, .null, [])),
  (104, (.invokevirtual 233, 107, 233, .null, [])),
  (107, (.ireturn, 108, 0, .null, [])),
  (108, (.aload_n 0, 109, 0, .null, [])),
  (109, (.getfield 54, 112, 54, .null, [])),
  (112, (.iload 4, 114, 4, .null, [])),
  (114, (.invokevirtual 236, 117, 236, .null, [])),
  (117, (.ireturn, 118, 0, .null, [])),
  (118, (.iconst (-1), 119, 0, .int (-1 : Int32), [])),
  (119, (.ireturn, 120, 0, .null, []))]
def mD_both : List (Nat × XM) := [(115, (2, 1, some 8, FD_isLine)), (230, (2, 1, some 0, FB_countCrossings)), (233, (2, 1, some 0, FB_countBetween)), (236, (2, 1, some 0, FB_countSideBySide)), (297, (2, 1, some 0, FB_countShared)), (300, (2, 1, some 0, FB_countSharedPlaces))]
abbrev BD_both : XB := (rD_both, XFT_D, mD_both, 1, XST_D)
set_option maxRecDepth 100000 in
theorem kD_both : XOK BD_both cX8_both 5 RX8 3 67 := xok_of (cps := []) (K := XKT_D) (by decide +kernel) XKT_D_ok (fun _ h => absurd h List.not_mem_nil) XFT_D_ok (List.forall_mem_cons.mpr ⟨⟨_, _, _, _, _, _, _, SD_isLine, rfl, rfl, Nat.le_of_ble_eq_true rfl, Nat.le_of_ble_eq_true rfl, cdD_isLine, lkD_115, imD_isLine, slD_isLine, inD_isLine, pmD_isLine⟩, List.forall_mem_cons.mpr ⟨⟨_, _, _, _, _, _, _, SB_countCrossings, rfl, rfl, Nat.le_of_ble_eq_true rfl, Nat.le_of_ble_eq_true rfl, cdB_countCrossings, lkD_230, imB_countCrossings, slB_countCrossings, inB_countCrossings, pmB_countCrossings⟩, List.forall_mem_cons.mpr ⟨⟨_, _, _, _, _, _, _, SB_countBetween, rfl, rfl, Nat.le_of_ble_eq_true rfl, Nat.le_of_ble_eq_true rfl, cdB_countBetween, lkD_233, imB_countBetween, slB_countBetween, inB_countBetween, pmB_countBetween⟩, List.forall_mem_cons.mpr ⟨⟨_, _, _, _, _, _, _, SB_countSideBySide, rfl, rfl, Nat.le_of_ble_eq_true rfl, Nat.le_of_ble_eq_true rfl, cdB_countSideBySide, lkD_236, imB_countSideBySide, slB_countSideBySide, inB_countSideBySide, pmB_countSideBySide⟩, List.forall_mem_cons.mpr ⟨⟨_, _, _, _, _, _, _, SB_countShared, rfl, rfl, Nat.le_of_ble_eq_true rfl, Nat.le_of_ble_eq_true rfl, cdB_countShared, lkD_297, imB_countShared, slB_countShared, inB_countShared, pmB_countShared⟩, List.forall_mem_cons.mpr ⟨⟨_, _, _, _, _, _, _, SB_countSharedPlaces, rfl, rfl, Nat.le_of_ble_eq_true rfl, Nat.le_of_ble_eq_true rfl, cdB_countSharedPlaces, lkD_300, imB_countSharedPlaces, slB_countSharedPlaces, inB_countSharedPlaces, pmB_countSharedPlaces⟩, fun _ h => absurd h List.not_mem_nil⟩⟩⟩⟩⟩⟩) XST_D_ok
def wD_both (f : Nat → Int32 → Int32 → Int32 → XH → XR) : List Value → List Value → XH → XR := fun vs st h => match vs, st with
  | [.ref a0, .int x1, .int x2, .int x3], [] => f a0 x1 x2 x3 h
  | _, _ => none
set_option maxRecDepth 100000 in
theorem eD_both (a0 : Nat) (x1 : Int32) (x2 : Int32) (x3 : Int32) (h : XH) : qD_both a0 x1 x2 x3 h = xrun BD_both (xfind []) 53 0 (List.zip [0, 1, 2, 3] [.ref a0, .int x1, .int x2, .int x3]) [] h := rfl
theorem tD_both : XTo cX8_both 5 RX8 1 3 67 0 [0, 1, 2, 3] (wD_both (qD_both)) := by
  refine XTo.run (B := BD_both) (cut := xfind []) kD_both (xcuts_ok (fun _ h => absurd h List.not_mem_nil)) 53 (fun vs st h r hr => ?_)
  unfold wD_both at hr
  split at hr
  · exact (eD_both _ _ _ _ _).symm.trans hr
  · cases hr
def FD_both : List Value → XH → XR := fun vs h => match vs with
  | [.ref a0, .int x1, .int x2, .int x3] => qD_both a0 x1 x2 x3 h
  | _ => none
theorem SD_both : XS yX8_both cX8_both 5 (some .int) (xrm 3 67) FD_both := by
  refine XS.of (own := RX8) (by decide) rfl (rk := 1) rfl (tD_both) (fun vs h r hr => ?_)
  unfold FD_both at hr
  split at hr
  · exact ⟨rfl, Nat.le_of_ble_eq_true rfl, hr⟩
  · cases hr
-- LineDiagramModel.cellsOfBoth(II)I
def rM_cellsOfBoth : List (Nat × XRow) := [(0, (.iconst 0, 1, 0, .int (0 : Int32), [])),
  (1, (.istore_n 3, 2, 3, .null, [])),
  (2, (.iconst 0, 3, 0, .int (0 : Int32), [])),
  (3, (.istore 4, 5, 4, .null, [])),
  (5, (.iload 4, 7, 4, .null, [])),
  (7, (.sipush 1600, 10, 0, .int (1600 : Int32), [])),
  (10, (.if_icmp .ge 83, 13, 93, .null, [])),
  (13, (.aload_n 0, 14, 0, .null, [])),
  (14, (.getfield 43, 17, 43, .null, [])),
  (17, (.iload 4, 19, 4, .null, [])),
  (19, (.iaload, 20, 0, .null, [])),
  (20, (.iload_n 1, 21, 1, .null, [])),
  (21, (.iand, 22, 0, .null, [])),
  (22, (.iload_n 1, 23, 1, .null, [])),
  (23, (.if_icmp .ne 7, 26, 30, .null, [])),
  (26, (.iconst 1, 27, 0, .int (1 : Int32), [])),
  (27, (.goto 4, 30, 31, .null, [])),
  (30, (.iconst 0, 31, 0, .int (0 : Int32), [])),
  (31, (.istore 5, 33, 5, .null, [])),
  (33, (.iload_n 3, 34, 3, .null, [])),
  (34, (.iload_n 2, 35, 2, .null, [])),
  (35, (.ifCond .ne 8, 38, 43, .null, [])),
  (38, (.iload 5, 40, 5, .null, [])),
  (40, (.ifCond .ne 40, 43, 80, .null, [])),
  (43, (.iload_n 2, 44, 2, .null, [])),
  (44, (.iconst 1, 45, 0, .int (1 : Int32), [])),
  (45, (.if_icmp .ne 16, 48, 61, .null, [])),
  (48, (.aload_n 0, 49, 0, .null, [])),
  (49, (.getfield 52, 52, 52, .null, [])),
  (52, (.iload 4, 54, 4, .null, [])),
  (54, (.iaload, 55, 0, .null, [])),
  (55, (.iload_n 1, 56, 1, .null, [])),
  (56, (.iand, 57, 0, .null, [])),
  (57, (.iload_n 1, 58, 1, .null, [])),
  (58, (.if_icmp .eq 22, 61, 80, .null, [])),
  (61, (.iload_n 2, 62, 2, .null, [])),
  (62, (.iconst 2, 63, 0, .int (2 : Int32), [])),
  (63, (.if_icmp .ne 21, 66, 84, .null, [])),
  (66, (.iload 5, 68, 5, .null, [])),
  (68, (.ifCond .eq 16, 71, 84, .null, [])),
  (71, (.aload_n 0, 72, 0, .null, [])),
  (72, (.iload 4, 74, 4, .null, [])),
  (74, (.invokevirtual 196, 77, 196, .null, [])),
  (77, (.ifCond .ne 7, 80, 84, .null, [])),
  (80, (.iconst 1, 81, 0, .int (1 : Int32), [])),
  (81, (.goto 4, 84, 85, .null, [])),
  (84, (.iconst 0, 85, 0, .int (0 : Int32), [])),
  (85, (.iadd, 86, 0, .null, [])),
  (86, (.istore_n 3, 87, 3, .null, [])),
  (87, (.iinc 4 1, 90, 4, .int (1 : Int32), [])),
  (90, (.goto (-85), 93, 5, .null, [])),
  (93, (.iload_n 3, 94, 3, .null, [])),
  (94, (.ireturn, 95, 0, .null, []))]
def mM_cellsOfBoth : List (Nat × XM) := [(196, (2, 1, some 9, FM_isPlace))]
abbrev BM_cellsOfBoth : XB := (rM_cellsOfBoth, XFT_M, mM_cellsOfBoth, 1, XST_M)
set_option maxRecDepth 100000 in
theorem kM_cellsOfBoth : XOK BM_cellsOfBoth cX9_cellsOfBoth 6 RX9 1 21 := xok_of (cps := []) (K := XKT_M) (by decide +kernel) XKT_M_ok (fun _ h => absurd h List.not_mem_nil) XFT_M_ok (List.forall_mem_cons.mpr ⟨⟨_, _, _, _, _, _, _, SM_isPlace, rfl, rfl, Nat.le_of_ble_eq_true rfl, Nat.le_of_ble_eq_true rfl, cdM_isPlace, lkM_196, imM_isPlace, slM_isPlace, inM_isPlace, pmM_isPlace⟩, fun _ h => absurd h List.not_mem_nil⟩) XST_M_ok
def wM_cellsOfBoth_80 (f : Nat → Int32 → Int32 → Int32 → Int32 → XH → XR) : List Value → List Value → XH → XR := fun vs st h => match vs, st with
  | [.ref a0, .int x1, .int x2, .int x4], [.int s0] => f a0 x1 x2 x4 s0 h
  | _, _ => none
def wM_cellsOfBoth_84 (f : Nat → Int32 → Int32 → Int32 → Int32 → XH → XR) : List Value → List Value → XH → XR := fun vs st h => match vs, st with
  | [.ref a0, .int x1, .int x2, .int x4], [.int s0] => f a0 x1 x2 x4 s0 h
  | _, _ => none
def wM_cellsOfBoth_61 (f : Nat → Int32 → Int32 → Int32 → Int32 → Int32 → XH → XR) : List Value → List Value → XH → XR := fun vs st h => match vs, st with
  | [.ref a0, .int x1, .int x2, .int x4, .int x5], [.int s0] => f a0 x1 x2 x4 x5 s0 h
  | _, _ => none
def wM_cellsOfBoth_43 (f : Nat → Int32 → Int32 → Int32 → Int32 → Int32 → XH → XR) : List Value → List Value → XH → XR := fun vs st h => match vs, st with
  | [.ref a0, .int x1, .int x2, .int x4, .int x5], [.int s0] => f a0 x1 x2 x4 x5 s0 h
  | _, _ => none
def wM_cellsOfBoth_31 (f : Nat → Int32 → Int32 → Int32 → Int32 → Int32 → XH → XR) : List Value → List Value → XH → XR := fun vs st h => match vs, st with
  | [.ref a0, .int x1, .int x2, .int x3, .int x4], [.int s0] => f a0 x1 x2 x3 x4 s0 h
  | _, _ => none
def wM_cellsOfBoth_5 (f : Nat → Int32 → Int32 → Int32 → Int32 → XH → XR) : List Value → List Value → XH → XR := fun vs st h => match vs, st with
  | [.ref a0, .int x1, .int x2, .int x3, .int x4], [] => f a0 x1 x2 x3 x4 h
  | _, _ => none
def wM_cellsOfBoth (f : Nat → Int32 → Int32 → XH → XR) : List Value → List Value → XH → XR := fun vs st h => match vs, st with
  | [.ref a0, .int x1, .int x2], [] => f a0 x1 x2 h
  | _, _ => none
set_option maxRecDepth 100000 in
theorem eM_cellsOfBoth_80 (k5 : Nat → Int32 → Int32 → Int32 → Int32 → XH → XR) (a0 : Nat) (x1 : Int32) (x2 : Int32) (x4 : Int32) (s0 : Int32) (h : XH) : qM_cellsOfBoth_80 k5 a0 x1 x2 x4 s0 h = xrun BM_cellsOfBoth (xfind [(5, ([0, 1, 2, 3, 4], wM_cellsOfBoth_5 (k5)))]) 56 80 (List.zip [0, 1, 2, 4] [.ref a0, .int x1, .int x2, .int x4]) [.int s0] h := rfl
theorem tM_cellsOfBoth_80 {k5 : Nat → Int32 → Int32 → Int32 → Int32 → XH → XR} (hk5 : XTo cX9_cellsOfBoth 6 RX9 1 1 21 5 [0, 1, 2, 3, 4] (wM_cellsOfBoth_5 k5)) : XTo cX9_cellsOfBoth 6 RX9 1 1 21 80 [0, 1, 2, 4] (wM_cellsOfBoth_80 (qM_cellsOfBoth_80 k5)) := by
  refine XTo.run (B := BM_cellsOfBoth) (cut := xfind [(5, ([0, 1, 2, 3, 4], wM_cellsOfBoth_5 (k5)))]) kM_cellsOfBoth (xcuts_ok (List.forall_mem_cons.mpr ⟨hk5, fun _ h => absurd h List.not_mem_nil⟩)) 56 (fun vs st h r hr => ?_)
  unfold wM_cellsOfBoth_80 at hr
  split at hr
  · exact (eM_cellsOfBoth_80 k5 _ _ _ _ _ _).symm.trans hr
  · cases hr
set_option maxRecDepth 100000 in
theorem eM_cellsOfBoth_84 (k5 : Nat → Int32 → Int32 → Int32 → Int32 → XH → XR) (a0 : Nat) (x1 : Int32) (x2 : Int32) (x4 : Int32) (s0 : Int32) (h : XH) : qM_cellsOfBoth_84 k5 a0 x1 x2 x4 s0 h = xrun BM_cellsOfBoth (xfind [(5, ([0, 1, 2, 3, 4], wM_cellsOfBoth_5 (k5)))]) 56 84 (List.zip [0, 1, 2, 4] [.ref a0, .int x1, .int x2, .int x4]) [.int s0] h := rfl
theorem tM_cellsOfBoth_84 {k5 : Nat → Int32 → Int32 → Int32 → Int32 → XH → XR} (hk5 : XTo cX9_cellsOfBoth 6 RX9 1 1 21 5 [0, 1, 2, 3, 4] (wM_cellsOfBoth_5 k5)) : XTo cX9_cellsOfBoth 6 RX9 1 1 21 84 [0, 1, 2, 4] (wM_cellsOfBoth_84 (qM_cellsOfBoth_84 k5)) := by
  refine XTo.run (B := BM_cellsOfBoth) (cut := xfind [(5, ([0, 1, 2, 3, 4], wM_cellsOfBoth_5 (k5)))]) kM_cellsOfBoth (xcuts_ok (List.forall_mem_cons.mpr ⟨hk5, fun _ h => absurd h List.not_mem_nil⟩)) 56 (fun vs st h r hr => ?_)
  unfold wM_cellsOfBoth_84 at hr
  split at hr
  · exact (eM_cellsOfBoth_84 k5 _ _ _ _ _ _).symm.trans hr
  · cases hr
set_option maxRecDepth 100000 in
theorem eM_cellsOfBoth_61 (k5 : Nat → Int32 → Int32 → Int32 → Int32 → XH → XR) (a0 : Nat) (x1 : Int32) (x2 : Int32) (x4 : Int32) (x5 : Int32) (s0 : Int32) (h : XH) : qM_cellsOfBoth_61 k5 a0 x1 x2 x4 x5 s0 h = xrun BM_cellsOfBoth (xfind [(80, ([0, 1, 2, 4], wM_cellsOfBoth_80 (qM_cellsOfBoth_80 k5))), (84, ([0, 1, 2, 4], wM_cellsOfBoth_84 (qM_cellsOfBoth_84 k5)))]) 56 61 (List.zip [0, 1, 2, 4, 5] [.ref a0, .int x1, .int x2, .int x4, .int x5]) [.int s0] h := rfl
theorem tM_cellsOfBoth_61 {k5 : Nat → Int32 → Int32 → Int32 → Int32 → XH → XR} (hk5 : XTo cX9_cellsOfBoth 6 RX9 1 1 21 5 [0, 1, 2, 3, 4] (wM_cellsOfBoth_5 k5)) : XTo cX9_cellsOfBoth 6 RX9 1 1 21 61 [0, 1, 2, 4, 5] (wM_cellsOfBoth_61 (qM_cellsOfBoth_61 k5)) := by
  refine XTo.run (B := BM_cellsOfBoth) (cut := xfind [(80, ([0, 1, 2, 4], wM_cellsOfBoth_80 (qM_cellsOfBoth_80 k5))), (84, ([0, 1, 2, 4], wM_cellsOfBoth_84 (qM_cellsOfBoth_84 k5)))]) kM_cellsOfBoth (xcuts_ok (List.forall_mem_cons.mpr ⟨tM_cellsOfBoth_80 hk5, List.forall_mem_cons.mpr ⟨tM_cellsOfBoth_84 hk5, fun _ h => absurd h List.not_mem_nil⟩⟩)) 56 (fun vs st h r hr => ?_)
  unfold wM_cellsOfBoth_61 at hr
  split at hr
  · exact (eM_cellsOfBoth_61 k5 _ _ _ _ _ _ _).symm.trans hr
  · cases hr
set_option maxRecDepth 100000 in
theorem eM_cellsOfBoth_43 (k5 : Nat → Int32 → Int32 → Int32 → Int32 → XH → XR) (a0 : Nat) (x1 : Int32) (x2 : Int32) (x4 : Int32) (x5 : Int32) (s0 : Int32) (h : XH) : qM_cellsOfBoth_43 k5 a0 x1 x2 x4 x5 s0 h = xrun BM_cellsOfBoth (xfind [(61, ([0, 1, 2, 4, 5], wM_cellsOfBoth_61 (qM_cellsOfBoth_61 k5))), (80, ([0, 1, 2, 4], wM_cellsOfBoth_80 (qM_cellsOfBoth_80 k5)))]) 56 43 (List.zip [0, 1, 2, 4, 5] [.ref a0, .int x1, .int x2, .int x4, .int x5]) [.int s0] h := rfl
theorem tM_cellsOfBoth_43 {k5 : Nat → Int32 → Int32 → Int32 → Int32 → XH → XR} (hk5 : XTo cX9_cellsOfBoth 6 RX9 1 1 21 5 [0, 1, 2, 3, 4] (wM_cellsOfBoth_5 k5)) : XTo cX9_cellsOfBoth 6 RX9 1 1 21 43 [0, 1, 2, 4, 5] (wM_cellsOfBoth_43 (qM_cellsOfBoth_43 k5)) := by
  refine XTo.run (B := BM_cellsOfBoth) (cut := xfind [(61, ([0, 1, 2, 4, 5], wM_cellsOfBoth_61 (qM_cellsOfBoth_61 k5))), (80, ([0, 1, 2, 4], wM_cellsOfBoth_80 (qM_cellsOfBoth_80 k5)))]) kM_cellsOfBoth (xcuts_ok (List.forall_mem_cons.mpr ⟨tM_cellsOfBoth_61 hk5, List.forall_mem_cons.mpr ⟨tM_cellsOfBoth_80 hk5, fun _ h => absurd h List.not_mem_nil⟩⟩)) 56 (fun vs st h r hr => ?_)
  unfold wM_cellsOfBoth_43 at hr
  split at hr
  · exact (eM_cellsOfBoth_43 k5 _ _ _ _ _ _ _).symm.trans hr
  · cases hr
set_option maxRecDepth 100000 in
theorem eM_cellsOfBoth_31 (k5 : Nat → Int32 → Int32 → Int32 → Int32 → XH → XR) (a0 : Nat) (x1 : Int32) (x2 : Int32) (x3 : Int32) (x4 : Int32) (s0 : Int32) (h : XH) : qM_cellsOfBoth_31 k5 a0 x1 x2 x3 x4 s0 h = xrun BM_cellsOfBoth (xfind [(43, ([0, 1, 2, 4, 5], wM_cellsOfBoth_43 (qM_cellsOfBoth_43 k5))), (80, ([0, 1, 2, 4], wM_cellsOfBoth_80 (qM_cellsOfBoth_80 k5)))]) 56 31 (List.zip [0, 1, 2, 3, 4] [.ref a0, .int x1, .int x2, .int x3, .int x4]) [.int s0] h := rfl
theorem tM_cellsOfBoth_31 {k5 : Nat → Int32 → Int32 → Int32 → Int32 → XH → XR} (hk5 : XTo cX9_cellsOfBoth 6 RX9 1 1 21 5 [0, 1, 2, 3, 4] (wM_cellsOfBoth_5 k5)) : XTo cX9_cellsOfBoth 6 RX9 1 1 21 31 [0, 1, 2, 3, 4] (wM_cellsOfBoth_31 (qM_cellsOfBoth_31 k5)) := by
  refine XTo.run (B := BM_cellsOfBoth) (cut := xfind [(43, ([0, 1, 2, 4, 5], wM_cellsOfBoth_43 (qM_cellsOfBoth_43 k5))), (80, ([0, 1, 2, 4], wM_cellsOfBoth_80 (qM_cellsOfBoth_80 k5)))]) kM_cellsOfBoth (xcuts_ok (List.forall_mem_cons.mpr ⟨tM_cellsOfBoth_43 hk5, List.forall_mem_cons.mpr ⟨tM_cellsOfBoth_80 hk5, fun _ h => absurd h List.not_mem_nil⟩⟩)) 56 (fun vs st h r hr => ?_)
  unfold wM_cellsOfBoth_31 at hr
  split at hr
  · exact (eM_cellsOfBoth_31 k5 _ _ _ _ _ _ _).symm.trans hr
  · cases hr
set_option maxRecDepth 100000 in
theorem eM_cellsOfBoth_5_b (k5 : Nat → Int32 → Int32 → Int32 → Int32 → XH → XR) (a0 : Nat) (x1 : Int32) (x2 : Int32) (x3 : Int32) (x4 : Int32) (h : XH) : qM_cellsOfBoth_5_b k5 a0 x1 x2 x3 x4 h = xrun BM_cellsOfBoth (xfind [(31, ([0, 1, 2, 3, 4], wM_cellsOfBoth_31 (qM_cellsOfBoth_31 k5)))]) 56 5 (List.zip [0, 1, 2, 3, 4] [.ref a0, .int x1, .int x2, .int x3, .int x4]) [] h := rfl
theorem tM_cellsOfBoth_5_b {k5 : Nat → Int32 → Int32 → Int32 → Int32 → XH → XR} (hk5 : XTo cX9_cellsOfBoth 6 RX9 1 1 21 5 [0, 1, 2, 3, 4] (wM_cellsOfBoth_5 k5)) : XTo cX9_cellsOfBoth 6 RX9 1 1 21 5 [0, 1, 2, 3, 4] (wM_cellsOfBoth_5 (qM_cellsOfBoth_5_b k5)) := by
  refine XTo.run (B := BM_cellsOfBoth) (cut := xfind [(31, ([0, 1, 2, 3, 4], wM_cellsOfBoth_31 (qM_cellsOfBoth_31 k5)))]) kM_cellsOfBoth (xcuts_ok (List.forall_mem_cons.mpr ⟨tM_cellsOfBoth_31 hk5, fun _ h => absurd h List.not_mem_nil⟩)) 56 (fun vs st h r hr => ?_)
  unfold wM_cellsOfBoth_5 at hr
  split at hr
  · exact (eM_cellsOfBoth_5_b k5 _ _ _ _ _ _).symm.trans hr
  · cases hr
theorem tM_cellsOfBoth_5 : ∀ n : Nat, XTo cX9_cellsOfBoth 6 RX9 1 1 21 5 [0, 1, 2, 3, 4] (wM_cellsOfBoth_5 (qM_cellsOfBoth_5 n)) := by
  intro n
  induction n with
  | zero =>
    refine XTo.none fun vs st h => ?_
    unfold wM_cellsOfBoth_5
    split <;> rfl
  | succ n ih => exact tM_cellsOfBoth_5_b  ih
set_option maxRecDepth 100000 in
theorem eM_cellsOfBoth (a0 : Nat) (x1 : Int32) (x2 : Int32) (h : XH) : qM_cellsOfBoth a0 x1 x2 h = xrun BM_cellsOfBoth (xfind [(5, ([0, 1, 2, 3, 4], wM_cellsOfBoth_5 (qM_cellsOfBoth_5 LF)))]) 56 0 (List.zip [0, 1, 2] [.ref a0, .int x1, .int x2]) [] h := rfl
theorem tM_cellsOfBoth : XTo cX9_cellsOfBoth 6 RX9 1 1 21 0 [0, 1, 2] (wM_cellsOfBoth (qM_cellsOfBoth)) := by
  refine XTo.run (B := BM_cellsOfBoth) (cut := xfind [(5, ([0, 1, 2, 3, 4], wM_cellsOfBoth_5 (qM_cellsOfBoth_5 LF)))]) kM_cellsOfBoth (xcuts_ok (List.forall_mem_cons.mpr ⟨tM_cellsOfBoth_5 LF, fun _ h => absurd h List.not_mem_nil⟩)) 56 (fun vs st h r hr => ?_)
  unfold wM_cellsOfBoth at hr
  split at hr
  · exact (eM_cellsOfBoth _ _ _ _).symm.trans hr
  · cases hr
def FM_cellsOfBoth : List Value → XH → XR := fun vs h => match vs with
  | [.ref a0, .int x1, .int x2] => qM_cellsOfBoth a0 x1 x2 h
  | _ => none
theorem SM_cellsOfBoth : XS yX9_cellsOfBoth cX9_cellsOfBoth 6 (some .int) (xrm 1 21) FM_cellsOfBoth := by
  refine XS.of (own := RX9) (by decide) rfl (rk := 1) rfl (tM_cellsOfBoth) (fun vs h r hr => ?_)
  unfold FM_cellsOfBoth at hr
  split at hr
  · exact ⟨rfl, Nat.le_of_ble_eq_true rfl, hr⟩
  · cases hr
-- LineDiagramModel.both(III)I
def rM_both : List (Nat × XRow) := [(0, (.aload_n 0, 1, 0, .null, [])),
  (1, (.iload_n 1, 2, 1, .null, [])),
  (2, (.invokevirtual 103, 5, 103, .null, [])),
  (5, (.ifCond .eq 28, 8, 33, .null, [])),
  (8, (.aload_n 0, 9, 0, .null, [])),
  (9, (.iload_n 2, 10, 2, .null, [])),
  (10, (.invokevirtual 103, 13, 103, .null, [])),
  (13, (.ifCond .eq 20, 16, 33, .null, [])),
  (16, (.iload_n 1, 17, 1, .null, [])),
  (17, (.iload_n 2, 18, 2, .null, [])),
  (18, (.if_icmp .eq 15, 21, 33, .null, [])),
  (21, (.iload_n 3, 22, 3, .null, [])),
  (22, (.i2l, 23, 0, .null, [])),
  (23, (.lconst 0, 24, 0, .long (0 : Int64), [])),
  (24, (.ldc2_w 446, 27, 446, .long (4 : Int64), [])),
  (27, (.invokestatic 96, 30, 96, .null, [])),
  (30, (.ifCond .ne 5, 33, 35, .null, [])),
  (33, (.iconst (-1), 34, 0, .int (-1 : Int32), [])),
  (34, (.ireturn, 35, 0, .null, [])),
  (35, (.aload_n 0, 36, 0, .null, [])),
  (36, (.invokevirtual 380, 39, 380, .null, [])),
  (39, (.iload_n 3, 40, 3, .null, [])),
  (40, (.iconst 3, 41, 0, .int (3 : Int32), [])),
  (41, (.if_icmp .ge 18, 44, 59, .null, [])),
  (44, (.aload_n 0, 45, 0, .null, [])),
  (45, (.iconst 1, 46, 0, .int (1 : Int32), [])),
  (46, (.iload_n 1, 47, 1, .null, [])),
  (47, (.ishl, 48, 0, .null, [])),
  (48, (.iconst 1, 49, 0, .int (1 : Int32), [])),
  (49, (.iload_n 2, 50, 2, .null, [])),
  (50, (.ishl, 51, 0, .null, [])),
  (51, (.ior, 52, 0, .null, [])),
  (52, (.iload_n 3, 53, 3, .null, [])),
  (53, (.invokevirtual 448, 56, 448, .null, [])),
  (56, (.goto 23, 59, 79, .null, [])),
  (59, (.iload_n 3, 60, 3, .null, [])),
  (60, (.iconst 3, 61, 0, .int (3 : Int32), [])),
  (61, (.if_icmp .ne 12, 64, 73, .null, [])),
  (64, (.aload_n 0, 65, 0, .null, [])),
  (65, (.iload_n 1, 66, 1, .null, [])),
  (66, (.iload_n 2, 67, 2, .null, [])),
  (67, (.invokevirtual 408, 70, 408, .null, [])),
  (70, (.goto 9, 73, 79, .null, [])),
  (73, (.aload_n 0, 74, 0, .null, [])),
  (74, (.iload_n 1, 75, 1, .null, [])),
  (75, (.iload_n 2, 76, 2, .null, [])),
  (76, (.invokevirtual 411, 79, 411, .null, [])),
  (79, (.ireturn, 80, 0, .null, []))]
def mM_both : List (Nat × XM) := [(96, (3, 1, none, FM_in)), (103, (2, 1, some 9, FM_isLine)), (380, (1, 0, some 9, FM_lays)), (408, (3, 1, some 9, FM_between)), (411, (3, 1, some 9, FM_sideBySide)), (448, (3, 1, some 9, FM_cellsOfBoth))]
abbrev BM_both : XB := (rM_both, XFT_M, mM_both, 1, XST_M)
set_option maxRecDepth 100000 in
theorem kM_both : XOK BM_both cX9_both 4 RX9 6 138 := xok_of (cps := []) (K := XKT_M) (by decide +kernel) XKT_M_ok (fun _ h => absurd h List.not_mem_nil) XFT_M_ok (List.forall_mem_cons.mpr ⟨⟨_, _, _, _, _, _, SM_in, Nat.le_of_ble_eq_true rfl, Nat.le_of_ble_eq_true rfl, cdM_in, lkM_96, imM_in, inM_in, pmM_in⟩, List.forall_mem_cons.mpr ⟨⟨_, _, _, _, _, _, _, SM_isLine, rfl, rfl, Nat.le_of_ble_eq_true rfl, Nat.le_of_ble_eq_true rfl, cdM_isLine, lkM_103, imM_isLine, slM_isLine, inM_isLine, pmM_isLine⟩, List.forall_mem_cons.mpr ⟨⟨_, _, _, _, _, _, _, SM_lays, rfl, rfl, Nat.le_of_ble_eq_true rfl, Nat.le_of_ble_eq_true rfl, cdM_lays, lkM_380, imM_lays, slM_lays, inM_lays, pmM_lays⟩, List.forall_mem_cons.mpr ⟨⟨_, _, _, _, _, _, _, SM_between, rfl, rfl, Nat.le_of_ble_eq_true rfl, Nat.le_of_ble_eq_true rfl, cdM_between, lkM_408, imM_between, slM_between, inM_between, pmM_between⟩, List.forall_mem_cons.mpr ⟨⟨_, _, _, _, _, _, _, SM_sideBySide, rfl, rfl, Nat.le_of_ble_eq_true rfl, Nat.le_of_ble_eq_true rfl, cdM_sideBySide, lkM_411, imM_sideBySide, slM_sideBySide, inM_sideBySide, pmM_sideBySide⟩, List.forall_mem_cons.mpr ⟨⟨_, _, _, _, _, _, _, SM_cellsOfBoth, rfl, rfl, Nat.le_of_ble_eq_true rfl, Nat.le_of_ble_eq_true rfl, cdM_cellsOfBoth, lkM_448, imM_cellsOfBoth, slM_cellsOfBoth, inM_cellsOfBoth, pmM_cellsOfBoth⟩, fun _ h => absurd h List.not_mem_nil⟩⟩⟩⟩⟩⟩) XST_M_ok
def wM_both (f : Nat → Int32 → Int32 → Int32 → XH → XR) : List Value → List Value → XH → XR := fun vs st h => match vs, st with
  | [.ref a0, .int x1, .int x2, .int x3], [] => f a0 x1 x2 x3 h
  | _, _ => none
set_option maxRecDepth 100000 in
theorem eM_both (a0 : Nat) (x1 : Int32) (x2 : Int32) (x3 : Int32) (h : XH) : qM_both a0 x1 x2 x3 h = xrun BM_both (xfind []) 51 0 (List.zip [0, 1, 2, 3] [.ref a0, .int x1, .int x2, .int x3]) [] h := rfl
theorem tM_both : XTo cX9_both 4 RX9 1 6 138 0 [0, 1, 2, 3] (wM_both (qM_both)) := by
  refine XTo.run (B := BM_both) (cut := xfind []) kM_both (xcuts_ok (fun _ h => absurd h List.not_mem_nil)) 51 (fun vs st h r hr => ?_)
  unfold wM_both at hr
  split at hr
  · exact (eM_both _ _ _ _ _).symm.trans hr
  · cases hr
def FM_both : List Value → XH → XR := fun vs h => match vs with
  | [.ref a0, .int x1, .int x2, .int x3] => qM_both a0 x1 x2 x3 h
  | _ => none
theorem SM_both : XS yX9_both cX9_both 4 (some .int) (xrm 6 138) FM_both := by
  refine XS.of (own := RX9) (by decide) rfl (rk := 1) rfl (tM_both) (fun vs h r hr => ?_)
  unfold FM_both at hr
  split at hr
  · exact ⟨rfl, Nat.le_of_ble_eq_true rfl, hr⟩
  · cases hr
-- LineDiagram$Board.crossingOf(I)I
def rB_crossingOf : List (Nat × XRow) := [(0, (.iconst 0, 1, 0, .int (0 : Int32), [])),
  (1, (.istore_n 2, 2, 2, .null, [])),
  (2, (.iconst 0, 3, 0, .int (0 : Int32), [])),
  (3, (.istore_n 3, 4, 3, .null, [])),
  (4, (.iload_n 3, 5, 3, .null, [])),
  (5, (.sipush 1600, 8, 0, .int (1600 : Int32), [])),
  (8, (.if_icmp .ge 33, 11, 41, .null, [])),
  (11, (.aload_n 0, 12, 0, .null, [])),
  (12, (.iload_n 3, 13, 3, .null, [])),
  (13, (.sipush 255, 16, 0, .int (255 : Int32), [])),
  (16, (.invokevirtual 134, 19, 134, .null, [])),
  (19, (.ifCond .eq 16, 22, 35, .null, [])),
  (22, (.iload_n 2, 23, 2, .null, [])),
  (23, (.iload_n 1, 24, 1, .null, [])),
  (24, (.if_icmp .ne 8, 27, 32, .null, [])),
  (27, (.iload_n 3, 28, 3, .null, [])),
  (28, (.invokestatic 138, 31, 138, .null, [])),
  (31, (.ireturn, 32, 0, .null, [])),
  (32, (.iinc 2 1, 35, 2, .int (1 : Int32), [])),
  (35, (.iinc 3 1, 38, 3, .int (1 : Int32), [])),
  (38, (.goto (-34), 41, 4, .null, [])),
  (41, (.bipush (-2), 43, 0, .int (-2 : Int32), [])),
  (43, (.ireturn, 44, 0, .null, []))]
def mB_crossingOf : List (Nat × XM) := [(134, (3, 1, some 0, FB_isCrossing)), (138, (1, 1, none, FD_codeOf))]
abbrev BB_crossingOf : XB := (rB_crossingOf, XFT_B, mB_crossingOf, 1, XST_B)
set_option maxRecDepth 100000 in
theorem kB_crossingOf : XOK BB_crossingOf cX0_crossingOf 4 RX0 2 42 := xok_of (cps := []) (K := XKT_B) (by decide +kernel) XKT_B_ok (fun _ h => absurd h List.not_mem_nil) XFT_B_ok (List.forall_mem_cons.mpr ⟨⟨_, _, _, _, _, _, _, SB_isCrossing, rfl, rfl, Nat.le_of_ble_eq_true rfl, Nat.le_of_ble_eq_true rfl, cdB_isCrossing, lkB_134, imB_isCrossing, slB_isCrossing, inB_isCrossing, pmB_isCrossing⟩, List.forall_mem_cons.mpr ⟨⟨_, _, _, _, _, _, SD_codeOf, Nat.le_of_ble_eq_true rfl, Nat.le_of_ble_eq_true rfl, cdD_codeOf, lkB_138, imD_codeOf, inD_codeOf, pmD_codeOf⟩, fun _ h => absurd h List.not_mem_nil⟩⟩) XST_B_ok
def wB_crossingOf_27 (f : Int32 → XH → XR) : List Value → List Value → XH → XR := fun vs st h => match vs, st with
  | [.int x3], [] => f x3 h
  | _, _ => none
def wB_crossingOf_4 (f : Nat → Int32 → Int32 → Int32 → XH → XR) : List Value → List Value → XH → XR := fun vs st h => match vs, st with
  | [.ref a0, .int x1, .int x2, .int x3], [] => f a0 x1 x2 x3 h
  | _, _ => none
def wB_crossingOf (f : Nat → Int32 → XH → XR) : List Value → List Value → XH → XR := fun vs st h => match vs, st with
  | [.ref a0, .int x1], [] => f a0 x1 h
  | _, _ => none
set_option maxRecDepth 100000 in
theorem eB_crossingOf_27 (x3 : Int32) (h : XH) : qB_crossingOf_27 x3 h = xrun BB_crossingOf (xfind []) 26 27 (List.zip [3] [.int x3]) [] h := rfl
theorem tB_crossingOf_27 : XTo cX0_crossingOf 4 RX0 1 2 42 27 [3] (wB_crossingOf_27 (qB_crossingOf_27)) := by
  refine XTo.run (B := BB_crossingOf) (cut := xfind []) kB_crossingOf (xcuts_ok (fun _ h => absurd h List.not_mem_nil)) 26 (fun vs st h r hr => ?_)
  unfold wB_crossingOf_27 at hr
  split at hr
  · exact (eB_crossingOf_27 _ _).symm.trans hr
  · cases hr
set_option maxRecDepth 100000 in
theorem eB_crossingOf_4_b (k4 : Nat → Int32 → Int32 → Int32 → XH → XR) (a0 : Nat) (x1 : Int32) (x2 : Int32) (x3 : Int32) (h : XH) : qB_crossingOf_4_b k4 a0 x1 x2 x3 h = xrun BB_crossingOf (xfind [(4, ([0, 1, 2, 3], wB_crossingOf_4 (k4))), (27, ([3], wB_crossingOf_27 (qB_crossingOf_27)))]) 26 4 (List.zip [0, 1, 2, 3] [.ref a0, .int x1, .int x2, .int x3]) [] h := rfl
theorem tB_crossingOf_4_b {k4 : Nat → Int32 → Int32 → Int32 → XH → XR} (hk4 : XTo cX0_crossingOf 4 RX0 1 2 42 4 [0, 1, 2, 3] (wB_crossingOf_4 k4)) : XTo cX0_crossingOf 4 RX0 1 2 42 4 [0, 1, 2, 3] (wB_crossingOf_4 (qB_crossingOf_4_b k4)) := by
  refine XTo.run (B := BB_crossingOf) (cut := xfind [(4, ([0, 1, 2, 3], wB_crossingOf_4 (k4))), (27, ([3], wB_crossingOf_27 (qB_crossingOf_27)))]) kB_crossingOf (xcuts_ok (List.forall_mem_cons.mpr ⟨hk4, List.forall_mem_cons.mpr ⟨tB_crossingOf_27, fun _ h => absurd h List.not_mem_nil⟩⟩)) 26 (fun vs st h r hr => ?_)
  unfold wB_crossingOf_4 at hr
  split at hr
  · exact (eB_crossingOf_4_b k4 _ _ _ _ _).symm.trans hr
  · cases hr
theorem tB_crossingOf_4 : ∀ n : Nat, XTo cX0_crossingOf 4 RX0 1 2 42 4 [0, 1, 2, 3] (wB_crossingOf_4 (qB_crossingOf_4 n)) := by
  intro n
  induction n with
  | zero =>
    refine XTo.none fun vs st h => ?_
    unfold wB_crossingOf_4
    split <;> rfl
  | succ n ih => exact tB_crossingOf_4_b  ih
set_option maxRecDepth 100000 in
theorem eB_crossingOf (a0 : Nat) (x1 : Int32) (h : XH) : qB_crossingOf a0 x1 h = xrun BB_crossingOf (xfind [(4, ([0, 1, 2, 3], wB_crossingOf_4 (qB_crossingOf_4 LF)))]) 26 0 (List.zip [0, 1] [.ref a0, .int x1]) [] h := rfl
theorem tB_crossingOf : XTo cX0_crossingOf 4 RX0 1 2 42 0 [0, 1] (wB_crossingOf (qB_crossingOf)) := by
  refine XTo.run (B := BB_crossingOf) (cut := xfind [(4, ([0, 1, 2, 3], wB_crossingOf_4 (qB_crossingOf_4 LF)))]) kB_crossingOf (xcuts_ok (List.forall_mem_cons.mpr ⟨tB_crossingOf_4 LF, fun _ h => absurd h List.not_mem_nil⟩)) 26 (fun vs st h r hr => ?_)
  unfold wB_crossingOf at hr
  split at hr
  · exact (eB_crossingOf _ _ _).symm.trans hr
  · cases hr
def FB_crossingOf : List Value → XH → XR := fun vs h => match vs with
  | [.ref a0, .int x1] => qB_crossingOf a0 x1 h
  | _ => none
theorem SB_crossingOf : XS yX0_crossingOf cX0_crossingOf 4 (some .int) (xrm 2 42) FB_crossingOf := by
  refine XS.of (own := RX0) (by decide) rfl (rk := 1) rfl (tB_crossingOf) (fun vs h r hr => ?_)
  unfold FB_crossingOf at hr
  split at hr
  · exact ⟨rfl, Nat.le_of_ble_eq_true rfl, hr⟩
  · cases hr
-- LineDiagram.crossing(I)I
def rD_crossing : List (Nat × XRow) := [(0, (.iload_n 1, 1, 1, .null, [])),
  (1, (.ifCond .ge 7, 4, 8, .null, [])),
  (4, (.iconst (-1), 5, 0, .int (-1 : Int32), [])),
  (5, (.goto 11, 8, 16, .null, [])),
  (8, (.aload_n 0, 9, 0, .null, [])),
  (9, (.getfield 54, 12, 54, .null, [])),
  (12, (.iload_n 1, 13, 1, .null, [])),
  (13, (.invokevirtual 303, 16, 303, .null, [])),
  (16, (.ireturn, 17, 0, .null, []))]
def mD_crossing : List (Nat × XM) := [(303, (2, 1, some 0, FB_crossingOf))]
abbrev BD_crossing : XB := (rD_crossing, XFT_D, mD_crossing, 1, XST_D)
set_option maxRecDepth 100000 in
theorem kD_crossing : XOK BD_crossing cX8_crossing 2 RX8 3 65 := xok_of (cps := []) (K := XKT_D) (by decide +kernel) XKT_D_ok (fun _ h => absurd h List.not_mem_nil) XFT_D_ok (List.forall_mem_cons.mpr ⟨⟨_, _, _, _, _, _, _, SB_crossingOf, rfl, rfl, Nat.le_of_ble_eq_true rfl, Nat.le_of_ble_eq_true rfl, cdB_crossingOf, lkD_303, imB_crossingOf, slB_crossingOf, inB_crossingOf, pmB_crossingOf⟩, fun _ h => absurd h List.not_mem_nil⟩) XST_D_ok
def wD_crossing (f : Nat → Int32 → XH → XR) : List Value → List Value → XH → XR := fun vs st h => match vs, st with
  | [.ref a0, .int x1], [] => f a0 x1 h
  | _, _ => none
set_option maxRecDepth 100000 in
theorem eD_crossing (a0 : Nat) (x1 : Int32) (h : XH) : qD_crossing a0 x1 h = xrun BD_crossing (xfind []) 12 0 (List.zip [0, 1] [.ref a0, .int x1]) [] h := rfl
theorem tD_crossing : XTo cX8_crossing 2 RX8 1 3 65 0 [0, 1] (wD_crossing (qD_crossing)) := by
  refine XTo.run (B := BD_crossing) (cut := xfind []) kD_crossing (xcuts_ok (fun _ h => absurd h List.not_mem_nil)) 12 (fun vs st h r hr => ?_)
  unfold wD_crossing at hr
  split at hr
  · exact (eD_crossing _ _ _).symm.trans hr
  · cases hr
def FD_crossing : List Value → XH → XR := fun vs h => match vs with
  | [.ref a0, .int x1] => qD_crossing a0 x1 h
  | _ => none
theorem SD_crossing : XS yX8_crossing cX8_crossing 2 (some .int) (xrm 3 65) FD_crossing := by
  refine XS.of (own := RX8) (by decide) rfl (rk := 1) rfl (tD_crossing) (fun vs h r hr => ?_)
  unfold FD_crossing at hr
  split at hr
  · exact ⟨rfl, Nat.le_of_ble_eq_true rfl, hr⟩
  · cases hr
