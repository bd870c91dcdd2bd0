-- LineDiagramModel.laysLines()V
def rM_laysLines : List (Nat × XRow) := [(0, (.iconst 0, 1, 0, .int (0 : Int32), [])),
  (1, (.istore_n 1, 2, 1, .null, [])),
  (2, (.iload_n 1, 3, 1, .null, [])),
  (3, (.sipush 1600, 6, 0, .int (1600 : Int32), [])),
  (6, (.if_icmp .ge 37, 9, 43, .null, [])),
  (9, (.aload_n 0, 10, 0, .null, [])),
  (10, (.getfield 43, 13, 43, .null, [])),
  (13, (.iload_n 1, 14, 1, .null, [])),
  (14, (.iconst 0, 15, 0, .int (0 : Int32), [])),
  (15, (.iastore, 16, 0, .null, [])),
  (16, (.aload_n 0, 17, 0, .null, [])),
  (17, (.getfield 49, 20, 49, .null, [])),
  (20, (.iload_n 1, 21, 1, .null, [])),
  (21, (.iconst 0, 22, 0, .int (0 : Int32), [])),
  (22, (.iastore, 23, 0, .null, [])),
  (23, (.aload_n 0, 24, 0, .null, [])),
  (24, (.getfield 52, 27, 52, .null, [])),
  (27, (.iload_n 1, 28, 1, .null, [])),
  (28, (.iconst 0, 29, 0, .int (0 : Int32), [])),
  (29, (.iastore, 30, 0, .null, [])),
  (30, (.aload_n 0, 31, 0, .null, [])),
  (31, (.getfield 55, 34, 55, .null, [])),
  (34, (.iload_n 1, 35, 1, .null, [])),
  (35, (.iconst 0, 36, 0, .int (0 : Int32), [])),
  (36, (.iastore, 37, 0, .null, [])),
  (37, (.iinc 1 1, 40, 1, .int (1 : Int32), [])),
  (40, (.goto (-38), 43, 2, .null, [])),
  (43, (.iconst 0, 44, 0, .int (0 : Int32), [])),
  (44, (.istore_n 1, 45, 1, .null, [])),
  (45, (.iload_n 1, 46, 1, .null, [])),
  (46, (.sipush 6400, 49, 0, .int (6400 : Int32), [])),
  (49, (.if_icmp .ge 16, 52, 65, .null, [])),
  (52, (.aload_n 0, 53, 0, .null, [])),
  (53, (.getfield 46, 56, 46, .null, [])),
  (56, (.iload_n 1, 57, 1, .null, [])),
  (57, (.iconst 0, 58, 0, .int (0 : Int32), [])),
  (58, (.iastore, 59, 0, .null, [])),
  (59, (.iinc 1 1, 62, 1, .int (1 : Int32), [])),
  (62, (.goto (-17), 65, 45, .null, [])),
  (65, (.iconst 0, 66, 0, .int (0 : Int32), [])),
  (66, (.istore_n 1, 67, 1, .null, [])),
  (67, (.iload_n 1, 68, 1, .null, [])),
  (68, (.aload_n 0, 69, 0, .null, [])),
  (69, (.getfield 100, 72, 100, .null, [])),
  (72, (.if_icmp .ge 86, 75, 158, .null, [])),
  (75, (.aload_n 0, 76, 0, .null, [])),
  (76, (.iload_n 1, 77, 1, .null, [])),
  (77, (.iconst 0, 78, 0, .int (0 : Int32), [])),
  (78, (.invokevirtual 120, 81, 120, .null, [])),
  (81, (.aload_n 0, 82, 0, .null, [])),
  (82, (.iload_n 1, 83, 1, .null, [])),
  (83, (.iconst 0, 84, 0, .int (0 : Int32), [])),
  (84, (.invokevirtual 123, 87, 123, .null, [])),
  (87, (.invokestatic 145, 90, 145, .null, [])),
  (90, (.istore_n 2, 91, 2, .null, [])),
  (91, (.aload_n 0, 92, 0, .null, [])),
  (92, (.getfield 37, 95, 37, .null, [])),
  (95, (.iload_n 1, 96, 1, .null, [])),
  (96, (.iconst 0, 97, 0, .int (0 : Int32), [])),
  (97, (.iastore, 98, 0, .null, [])),
  (98, (.aload_n 0, 99, 0, .null, [])),
  (99, (.getfield 40, 102, 40, .null, [])),
  (102, (.sipush 400, 105, 0, .int (400 : Int32), [])),
  (105, (.iload_n 1, 106, 1, .null, [])),
  (106, (.imul, 107, 0, .null, [])),
  (107, (.iload_n 2, 108, 2, .null, [])),
  (108, (.iastore, 109, 0, .null, [])),
  (109, (.aload_n 0, 110, 0, .null, [])),
  (110, (.getfield 43, 113, 43, .null, [])),
  (113, (.iload_n 2, 114, 2, .null, [])),
  (114, (.dup2, 115, 0, .null, [])),
  (115, (.iaload, 116, 0, .null, [])),
  (116, (.iconst 1, 117, 0, .int (1 : Int32), [])),
  (117, (.iload_n 1, 118, 1, .null, [])),
  (118, (.ishl, 119, 0, .null, [])),
  (119, (.ior, 120, 0, .null, [])),
  (120, (.iastore, 121, 0, .null, [])),
  (121, (.iconst 0, 122, 0, .int (0 : Int32), [])),
  (122, (.istore_n 3, 123, 3, .null, [])),
  (123, (.iload_n 3, 124, 3, .null, [])),
  (124, (.iconst 1, 125, 0, .int (1 : Int32), [])),
  (125, (.iadd, 126, 0, .null, [])),
  (126, (.aload_n 0, 127, 0, .null, [])),
  (127, (.iload_n 1, 128, 1, .null, [])),
  (128, (.iconst 2, 129, 0, .int (2 : Int32), [])),
  (129, (.invokevirtual 88, 132, 88, .null, [])),
  (132, (.if_icmp .ge 15, 135, 147, .null, [])),
  (135, (.aload_n 0, 136, 0, .null, [])),
  (136, (.iload_n 1, 137, 1, .null, [])),
  (137, (.iload_n 3, 138, 3, .null, [])),
  (138, (.invokevirtual 157, 141, 157, .null, [])),
  (141, (.iinc 3 1, 144, 3, .int (1 : Int32), [])),
  (144, (.goto (-21), 147, 123, .null, [])),
  (147, (.aload_n 0, 148, 0, .null, [])),
  (148, (.iload_n 1, 149, 1, .null, [])),
  (149, (.invokevirtual 161, 152, 161, .null, [])),
  (152, (.iinc 1 1, 155, 1, .int (1 : Int32), [])),
  (155, (.goto (-88), 158, 67, .null, [])),
  (158, (.return_, 159, 0, .null, []))]
def mM_laysLines : List (Nat × XM) := [(88, (3, 1, some 9, FM_of)), (120, (3, 1, some 9, FM_px)), (123, (3, 1, some 9, FM_py)), (145, (2, 1, none, FM_cell)), (157, (3, 0, some 9, FM_laysRun)), (161, (2, 0, some 9, FM_laysStations))]
abbrev BM_laysLines : XB := (rM_laysLines, XFT_M, mM_laysLines, 0, XST_M)
set_option maxRecDepth 100000 in
theorem kM_laysLines : XOK BM_laysLines cX9_laysLines 4 RX9 4 94 := xok_of (cps := []) (K := XKT_M) (by decide +kernel) XKT_M_ok (fun _ h => absurd h List.not_mem_nil) XFT_M_ok (List.forall_mem_cons.mpr ⟨⟨_, _, _, _, _, _, _, SM_of, rfl, rfl, Nat.le_of_ble_eq_true rfl, Nat.le_of_ble_eq_true rfl, cdM_of, lkM_88, imM_of, slM_of, inM_of, pmM_of⟩, List.forall_mem_cons.mpr ⟨⟨_, _, _, _, _, _, _, SM_px, rfl, rfl, Nat.le_of_ble_eq_true rfl, Nat.le_of_ble_eq_true rfl, cdM_px, lkM_120, imM_px, slM_px, inM_px, pmM_px⟩, List.forall_mem_cons.mpr ⟨⟨_, _, _, _, _, _, _, SM_py, rfl, rfl, Nat.le_of_ble_eq_true rfl, Nat.le_of_ble_eq_true rfl, cdM_py, lkM_123, imM_py, slM_py, inM_py, pmM_py⟩, List.forall_mem_cons.mpr ⟨⟨_, _, _, _, _, _, SM_cell, Nat.le_of_ble_eq_true rfl, Nat.le_of_ble_eq_true rfl, cdM_cell, lkM_145, imM_cell, inM_cell, pmM_cell⟩, List.forall_mem_cons.mpr ⟨⟨_, _, _, _, _, _, _, SM_laysRun, rfl, rfl, Nat.le_of_ble_eq_true rfl, Nat.le_of_ble_eq_true rfl, cdM_laysRun, lkM_157, imM_laysRun, slM_laysRun, inM_laysRun, pmM_laysRun⟩, List.forall_mem_cons.mpr ⟨⟨_, _, _, _, _, _, _, SM_laysStations, rfl, rfl, Nat.le_of_ble_eq_true rfl, Nat.le_of_ble_eq_true rfl, cdM_laysStations, lkM_161, imM_laysStations, slM_laysStations, inM_laysStations, pmM_laysStations⟩, fun _ h => absurd h List.not_mem_nil⟩⟩⟩⟩⟩⟩) XST_M_ok
def wM_laysLines_147 (f : Nat → Int32 → XH → XR) : List Value → List Value → XH → XR := fun vs st h => match vs, st with
  | [.ref a0, .int x1], [] => f a0 x1 h
  | _, _ => none
def wM_laysLines_123 (f : Nat → Int32 → Int32 → XH → XR) : List Value → List Value → XH → XR := fun vs st h => match vs, st with
  | [.ref a0, .int x1, .int x3], [] => f a0 x1 x3 h
  | _, _ => none
def wM_laysLines_67 (f : Nat → Int32 → XH → XR) : List Value → List Value → XH → XR := fun vs st h => match vs, st with
  | [.ref a0, .int x1], [] => f a0 x1 h
  | _, _ => none
def wM_laysLines_45 (f : Nat → Int32 → XH → XR) : List Value → List Value → XH → XR := fun vs st h => match vs, st with
  | [.ref a0, .int x1], [] => f a0 x1 h
  | _, _ => none
def wM_laysLines_2 (f : Nat → Int32 → XH → XR) : List Value → List Value → XH → XR := fun vs st h => match vs, st with
  | [.ref a0, .int x1], [] => f a0 x1 h
  | _, _ => none
def wM_laysLines (f : Nat → XH → XR) : List Value → List Value → XH → XR := fun vs st h => match vs, st with
  | [.ref a0], [] => f a0 h
  | _, _ => none
set_option maxRecDepth 100000 in
theorem eM_laysLines_147 (k67 : Nat → Int32 → XH → XR) (a0 : Nat) (x1 : Int32) (h : XH) : qM_laysLines_147 k67 a0 x1 h = xrun BM_laysLines (xfind [(67, ([0, 1], wM_laysLines_67 (k67)))]) 102 147 (List.zip [0, 1] [.ref a0, .int x1]) [] h := rfl
theorem tM_laysLines_147 {k67 : Nat → Int32 → XH → XR} (hk67 : XTo cX9_laysLines 4 RX9 0 4 94 67 [0, 1] (wM_laysLines_67 k67)) : XTo cX9_laysLines 4 RX9 0 4 94 147 [0, 1] (wM_laysLines_147 (qM_laysLines_147 k67)) := by
  refine XTo.run (B := BM_laysLines) (cut := xfind [(67, ([0, 1], wM_laysLines_67 (k67)))]) kM_laysLines (xcuts_ok (List.forall_mem_cons.mpr ⟨hk67, fun _ h => absurd h List.not_mem_nil⟩)) 102 (fun vs st h r hr => ?_)
  unfold wM_laysLines_147 at hr
  split at hr
  · exact (eM_laysLines_147 k67 _ _ _).symm.trans hr
  · cases hr
set_option maxRecDepth 100000 in
theorem eM_laysLines_123_b (k67 : Nat → Int32 → XH → XR) (k123 : Nat → Int32 → Int32 → XH → XR) (a0 : Nat) (x1 : Int32) (x3 : Int32) (h : XH) : qM_laysLines_123_b k67 k123 a0 x1 x3 h = xrun BM_laysLines (xfind [(123, ([0, 1, 3], wM_laysLines_123 (k123))), (147, ([0, 1], wM_laysLines_147 (qM_laysLines_147 k67)))]) 102 123 (List.zip [0, 1, 3] [.ref a0, .int x1, .int x3]) [] h := rfl
theorem tM_laysLines_123_b {k67 : Nat → Int32 → XH → XR} {k123 : Nat → Int32 → Int32 → XH → XR} (hk67 : XTo cX9_laysLines 4 RX9 0 4 94 67 [0, 1] (wM_laysLines_67 k67)) (hk123 : XTo cX9_laysLines 4 RX9 0 4 94 123 [0, 1, 3] (wM_laysLines_123 k123)) : XTo cX9_laysLines 4 RX9 0 4 94 123 [0, 1, 3] (wM_laysLines_123 (qM_laysLines_123_b k67 k123)) := by
  refine XTo.run (B := BM_laysLines) (cut := xfind [(123, ([0, 1, 3], wM_laysLines_123 (k123))), (147, ([0, 1], wM_laysLines_147 (qM_laysLines_147 k67)))]) kM_laysLines (xcuts_ok (List.forall_mem_cons.mpr ⟨hk123, List.forall_mem_cons.mpr ⟨tM_laysLines_147 hk67, fun _ h => absurd h List.not_mem_nil⟩⟩)) 102 (fun vs st h r hr => ?_)
  unfold wM_laysLines_123 at hr
  split at hr
  · exact (eM_laysLines_123_b k67 k123 _ _ _ _).symm.trans hr
  · cases hr
theorem tM_laysLines_123 {k67 : Nat → Int32 → XH → XR} (hk67 : XTo cX9_laysLines 4 RX9 0 4 94 67 [0, 1] (wM_laysLines_67 k67)) : ∀ n : Nat, XTo cX9_laysLines 4 RX9 0 4 94 123 [0, 1, 3] (wM_laysLines_123 (qM_laysLines_123 k67 n)) := by
  intro n
  induction n with
  | zero =>
    refine XTo.none fun vs st h => ?_
    unfold wM_laysLines_123
    split <;> rfl
  | succ n ih => exact tM_laysLines_123_b hk67 ih
set_option maxRecDepth 100000 in
theorem eM_laysLines_67_b (k67 : Nat → Int32 → XH → XR) (a0 : Nat) (x1 : Int32) (h : XH) : qM_laysLines_67_b k67 a0 x1 h = xrun BM_laysLines (xfind [(123, ([0, 1, 3], wM_laysLines_123 (qM_laysLines_123 k67 LF)))]) 102 67 (List.zip [0, 1] [.ref a0, .int x1]) [] h := rfl
theorem tM_laysLines_67_b {k67 : Nat → Int32 → XH → XR} (hk67 : XTo cX9_laysLines 4 RX9 0 4 94 67 [0, 1] (wM_laysLines_67 k67)) : XTo cX9_laysLines 4 RX9 0 4 94 67 [0, 1] (wM_laysLines_67 (qM_laysLines_67_b k67)) := by
  refine XTo.run (B := BM_laysLines) (cut := xfind [(123, ([0, 1, 3], wM_laysLines_123 (qM_laysLines_123 k67 LF)))]) kM_laysLines (xcuts_ok (List.forall_mem_cons.mpr ⟨tM_laysLines_123 hk67 LF, fun _ h => absurd h List.not_mem_nil⟩)) 102 (fun vs st h r hr => ?_)
  unfold wM_laysLines_67 at hr
  split at hr
  · exact (eM_laysLines_67_b k67 _ _ _).symm.trans hr
  · cases hr
theorem tM_laysLines_67 : ∀ n : Nat, XTo cX9_laysLines 4 RX9 0 4 94 67 [0, 1] (wM_laysLines_67 (qM_laysLines_67 n)) := by
  intro n
  induction n with
  | zero =>
    refine XTo.none fun vs st h => ?_
    unfold wM_laysLines_67
    split <;> rfl
  | succ n ih => exact tM_laysLines_67_b  ih
set_option maxRecDepth 100000 in
theorem eM_laysLines_45_b (k45 : Nat → Int32 → XH → XR) (a0 : Nat) (x1 : Int32) (h : XH) : qM_laysLines_45_b k45 a0 x1 h = xrun BM_laysLines (xfind [(45, ([0, 1], wM_laysLines_45 (k45))), (67, ([0, 1], wM_laysLines_67 (qM_laysLines_67 LF)))]) 102 45 (List.zip [0, 1] [.ref a0, .int x1]) [] h := rfl
theorem tM_laysLines_45_b {k45 : Nat → Int32 → XH → XR} (hk45 : XTo cX9_laysLines 4 RX9 0 4 94 45 [0, 1] (wM_laysLines_45 k45)) : XTo cX9_laysLines 4 RX9 0 4 94 45 [0, 1] (wM_laysLines_45 (qM_laysLines_45_b k45)) := by
  refine XTo.run (B := BM_laysLines) (cut := xfind [(45, ([0, 1], wM_laysLines_45 (k45))), (67, ([0, 1], wM_laysLines_67 (qM_laysLines_67 LF)))]) kM_laysLines (xcuts_ok (List.forall_mem_cons.mpr ⟨hk45, List.forall_mem_cons.mpr ⟨tM_laysLines_67 LF, fun _ h => absurd h List.not_mem_nil⟩⟩)) 102 (fun vs st h r hr => ?_)
  unfold wM_laysLines_45 at hr
  split at hr
  · exact (eM_laysLines_45_b k45 _ _ _).symm.trans hr
  · cases hr
theorem tM_laysLines_45 : ∀ n : Nat, XTo cX9_laysLines 4 RX9 0 4 94 45 [0, 1] (wM_laysLines_45 (qM_laysLines_45 n)) := by
  intro n
  induction n with
  | zero =>
    refine XTo.none fun vs st h => ?_
    unfold wM_laysLines_45
    split <;> rfl
  | succ n ih => exact tM_laysLines_45_b  ih
set_option maxRecDepth 100000 in
theorem eM_laysLines_2_b (k2 : Nat → Int32 → XH → XR) (a0 : Nat) (x1 : Int32) (h : XH) : qM_laysLines_2_b k2 a0 x1 h = xrun BM_laysLines (xfind [(2, ([0, 1], wM_laysLines_2 (k2))), (45, ([0, 1], wM_laysLines_45 (qM_laysLines_45 LF)))]) 102 2 (List.zip [0, 1] [.ref a0, .int x1]) [] h := rfl
theorem tM_laysLines_2_b {k2 : Nat → Int32 → XH → XR} (hk2 : XTo cX9_laysLines 4 RX9 0 4 94 2 [0, 1] (wM_laysLines_2 k2)) : XTo cX9_laysLines 4 RX9 0 4 94 2 [0, 1] (wM_laysLines_2 (qM_laysLines_2_b k2)) := by
  refine XTo.run (B := BM_laysLines) (cut := xfind [(2, ([0, 1], wM_laysLines_2 (k2))), (45, ([0, 1], wM_laysLines_45 (qM_laysLines_45 LF)))]) kM_laysLines (xcuts_ok (List.forall_mem_cons.mpr ⟨hk2, List.forall_mem_cons.mpr ⟨tM_laysLines_45 LF, fun _ h => absurd h List.not_mem_nil⟩⟩)) 102 (fun vs st h r hr => ?_)
  unfold wM_laysLines_2 at hr
  split at hr
  · exact (eM_laysLines_2_b k2 _ _ _).symm.trans hr
  · cases hr
theorem tM_laysLines_2 : ∀ n : Nat, XTo cX9_laysLines 4 RX9 0 4 94 2 [0, 1] (wM_laysLines_2 (qM_laysLines_2 n)) := by
  intro n
  induction n with
  | zero =>
    refine XTo.none fun vs st h => ?_
    unfold wM_laysLines_2
    split <;> rfl
  | succ n ih => exact tM_laysLines_2_b  ih
set_option maxRecDepth 100000 in
theorem eM_laysLines (a0 : Nat) (h : XH) : qM_laysLines a0 h = xrun BM_laysLines (xfind [(2, ([0, 1], wM_laysLines_2 (qM_laysLines_2 LF)))]) 102 0 (List.zip [0] [.ref a0]) [] h := rfl
theorem tM_laysLines : XTo cX9_laysLines 4 RX9 0 4 94 0 [0] (wM_laysLines (qM_laysLines)) := by
  refine XTo.run (B := BM_laysLines) (cut := xfind [(2, ([0, 1], wM_laysLines_2 (qM_laysLines_2 LF)))]) kM_laysLines (xcuts_ok (List.forall_mem_cons.mpr ⟨tM_laysLines_2 LF, fun _ h => absurd h List.not_mem_nil⟩)) 102 (fun vs st h r hr => ?_)
  unfold wM_laysLines at hr
  split at hr
  · exact (eM_laysLines _ _).symm.trans hr
  · cases hr
def FM_laysLines : List Value → XH → XR := fun vs h => match vs with
  | [.ref a0] => qM_laysLines a0 h
  | _ => none
theorem SM_laysLines : XS yX9_laysLines cX9_laysLines 4 none (xrm 4 94) FM_laysLines := by
  refine XS.of (own := RX9) (by decide) rfl (rk := 0) rfl (tM_laysLines) (fun vs h r hr => ?_)
  unfold FM_laysLines at hr
  split at hr
  · exact ⟨rfl, Nat.le_of_ble_eq_true rfl, hr⟩
  · cases hr
-- LineDiagramModel.clearsLabels()V
def rM_clearsLabels : List (Nat × XRow) := [(0, (.iconst 0, 1, 0, .int (0 : Int32), [])),
  (1, (.istore_n 1, 2, 1, .null, [])),
  (2, (.iload_n 1, 3, 1, .null, [])),
  (3, (.sipush 1600, 6, 0, .int (1600 : Int32), [])),
  (6, (.if_icmp .ge 17, 9, 23, .null, [])),
  (9, (.aload_n 0, 10, 0, .null, [])),
  (10, (.getfield 58, 13, 58, .null, [])),
  (13, (.iload_n 1, 14, 1, .null, [])),
  (14, (.bipush (-2), 16, 0, .int (-2 : Int32), [])),
  (16, (.iastore, 17, 0, .null, [])),
  (17, (.iinc 1 1, 20, 1, .int (1 : Int32), [])),
  (20, (.goto (-18), 23, 2, .null, [])),
  (23, (.return_, 24, 0, .null, []))]
def mM_clearsLabels : List (Nat × XM) := []
abbrev BM_clearsLabels : XB := (rM_clearsLabels, XFT_M, mM_clearsLabels, 0, XST_M)
set_option maxRecDepth 100000 in
theorem kM_clearsLabels : XOK BM_clearsLabels cX9_clearsLabels 2 RX9 0 0 := xok_of (cps := []) (K := XKT_M) (by decide +kernel) XKT_M_ok (fun _ h => absurd h List.not_mem_nil) XFT_M_ok (fun _ h => absurd h List.not_mem_nil) XST_M_ok
def wM_clearsLabels_2 (f : Nat → Int32 → XH → XR) : List Value → List Value → XH → XR := fun vs st h => match vs, st with
  | [.ref a0, .int x1], [] => f a0 x1 h
  | _, _ => none
def wM_clearsLabels (f : Nat → XH → XR) : List Value → List Value → XH → XR := fun vs st h => match vs, st with
  | [.ref a0], [] => f a0 h
  | _, _ => none
set_option maxRecDepth 100000 in
theorem eM_clearsLabels_2_b (k2 : Nat → Int32 → XH → XR) (a0 : Nat) (x1 : Int32) (h : XH) : qM_clearsLabels_2_b k2 a0 x1 h = xrun BM_clearsLabels (xfind [(2, ([0, 1], wM_clearsLabels_2 (k2)))]) 16 2 (List.zip [0, 1] [.ref a0, .int x1]) [] h := rfl
theorem tM_clearsLabels_2_b {k2 : Nat → Int32 → XH → XR} (hk2 : XTo cX9_clearsLabels 2 RX9 0 0 0 2 [0, 1] (wM_clearsLabels_2 k2)) : XTo cX9_clearsLabels 2 RX9 0 0 0 2 [0, 1] (wM_clearsLabels_2 (qM_clearsLabels_2_b k2)) := by
  refine XTo.run (B := BM_clearsLabels) (cut := xfind [(2, ([0, 1], wM_clearsLabels_2 (k2)))]) kM_clearsLabels (xcuts_ok (List.forall_mem_cons.mpr ⟨hk2, fun _ h => absurd h List.not_mem_nil⟩)) 16 (fun vs st h r hr => ?_)
  unfold wM_clearsLabels_2 at hr
  split at hr
  · exact (eM_clearsLabels_2_b k2 _ _ _).symm.trans hr
  · cases hr
theorem tM_clearsLabels_2 : ∀ n : Nat, XTo cX9_clearsLabels 2 RX9 0 0 0 2 [0, 1] (wM_clearsLabels_2 (qM_clearsLabels_2 n)) := by
  intro n
  induction n with
  | zero =>
    refine XTo.none fun vs st h => ?_
    unfold wM_clearsLabels_2
    split <;> rfl
  | succ n ih => exact tM_clearsLabels_2_b  ih
set_option maxRecDepth 100000 in
theorem eM_clearsLabels (a0 : Nat) (h : XH) : qM_clearsLabels a0 h = xrun BM_clearsLabels (xfind [(2, ([0, 1], wM_clearsLabels_2 (qM_clearsLabels_2 LF)))]) 16 0 (List.zip [0] [.ref a0]) [] h := rfl
theorem tM_clearsLabels : XTo cX9_clearsLabels 2 RX9 0 0 0 0 [0] (wM_clearsLabels (qM_clearsLabels)) := by
  refine XTo.run (B := BM_clearsLabels) (cut := xfind [(2, ([0, 1], wM_clearsLabels_2 (qM_clearsLabels_2 LF)))]) kM_clearsLabels (xcuts_ok (List.forall_mem_cons.mpr ⟨tM_clearsLabels_2 LF, fun _ h => absurd h List.not_mem_nil⟩)) 16 (fun vs st h r hr => ?_)
  unfold wM_clearsLabels at hr
  split at hr
  · exact (eM_clearsLabels _ _).symm.trans hr
  · cases hr
def FM_clearsLabels : List Value → XH → XR := fun vs h => match vs with
  | [.ref a0] => qM_clearsLabels a0 h
  | _ => none
theorem SM_clearsLabels : XS yX9_clearsLabels cX9_clearsLabels 2 none (xrm 0 0) FM_clearsLabels := by
  refine XS.of (own := RX9) (by decide) rfl (rk := 0) rfl (tM_clearsLabels) (fun vs h r hr => ?_)
  unfold FM_clearsLabels at hr
  split at hr
  · exact ⟨rfl, Nat.le_of_ble_eq_true rfl, hr⟩
  · cases hr
-- LineDiagramModel.isPlace(I)Z
def rM_isPlace : List (Nat × XRow) := [(0, (.aload_n 0, 1, 0, .null, [])),
  (1, (.getfield 49, 4, 49, .null, [])),
  (4, (.iload_n 1, 5, 1, .null, [])),
  (5, (.iaload, 6, 0, .null, [])),
  (6, (.ifCond .le 7, 9, 13, .null, [])),
  (9, (.iconst 1, 10, 0, .int (1 : Int32), [])),
  (10, (.goto 4, 13, 14, .null, [])),
  (13, (.iconst 0, 14, 0, .int (0 : Int32), [])),
  (14, (.ireturn, 15, 0, .null, []))]
def mM_isPlace : List (Nat × XM) := []
abbrev BM_isPlace : XB := (rM_isPlace, XFT_M, mM_isPlace, 6, XST_M)
set_option maxRecDepth 100000 in
theorem kM_isPlace : XOK BM_isPlace cX9_isPlace 2 RX9 0 0 := xok_of (cps := []) (K := XKT_M) (by decide +kernel) XKT_M_ok (fun _ h => absurd h List.not_mem_nil) XFT_M_ok (fun _ h => absurd h List.not_mem_nil) XST_M_ok
def wM_isPlace (f : Nat → Int32 → XH → XR) : List Value → List Value → XH → XR := fun vs st h => match vs, st with
  | [.ref a0, .int x1], [] => f a0 x1 h
  | _, _ => none
set_option maxRecDepth 100000 in
theorem eM_isPlace (a0 : Nat) (x1 : Int32) (h : XH) : qM_isPlace a0 x1 h = xrun BM_isPlace (xfind []) 12 0 (List.zip [0, 1] [.ref a0, .int x1]) [] h := rfl
theorem tM_isPlace : XTo cX9_isPlace 2 RX9 6 0 0 0 [0, 1] (wM_isPlace (qM_isPlace)) := by
  refine XTo.run (B := BM_isPlace) (cut := xfind []) kM_isPlace (xcuts_ok (fun _ h => absurd h List.not_mem_nil)) 12 (fun vs st h r hr => ?_)
  unfold wM_isPlace at hr
  split at hr
  · exact (eM_isPlace _ _ _).symm.trans hr
  · cases hr
def FM_isPlace : List Value → XH → XR := fun vs h => match vs with
  | [.ref a0, .int x1] => qM_isPlace a0 x1 h
  | _ => none
theorem SM_isPlace : XS yX9_isPlace cX9_isPlace 2 (some .boolean) (xrm 0 0) FM_isPlace := by
  refine XS.of (own := RX9) (by decide) rfl (rk := 6) rfl (tM_isPlace) (fun vs h r hr => ?_)
  unfold FM_isPlace at hr
  split at hr
  · exact ⟨rfl, Nat.le_of_ble_eq_true rfl, hr⟩
  · cases hr
-- LineDiagramModel.isOff(II)Z
def rM_isOff : List (Nat × XRow) := [(0, (.aload_n 0, 1, 0, .null, [])),
  (1, (.iload_n 1, 2, 1, .null, [])),
  (2, (.iload_n 2, 3, 2, .null, [])),
  (3, (.invokevirtual 165, 6, 165, .null, [])),
  (6, (.istore_n 3, 7, 3, .null, [])),
  (7, (.iload_n 3, 8, 3, .null, [])),
  (8, (.ifCond .lt 38, 11, 46, .null, [])),
  (11, (.iload_n 3, 12, 3, .null, [])),
  (12, (.aload_n 0, 13, 0, .null, [])),
  (13, (.getfield 55, 16, 55, .null, [])),
  (16, (.iload_n 1, 17, 1, .null, [])),
  (17, (.iaload, 18, 0, .null, [])),
  (18, (.iadd, 19, 0, .null, [])),
  (19, (.aload_n 0, 20, 0, .null, [])),
  (20, (.getfield 73, 23, 73, .null, [])),
  (23, (.if_icmp .gt 23, 26, 46, .null, [])),
  (26, (.iload_n 1, 27, 1, .null, [])),
  (27, (.iload_n 2, 28, 2, .null, [])),
  (28, (.invokestatic 168, 31, 168, .null, [])),
  (31, (.i2l, 32, 0, .null, [])),
  (32, (.lconst 0, 33, 0, .long (0 : Int64), [])),
  (33, (.aload_n 0, 34, 0, .null, [])),
  (34, (.getfield 76, 37, 76, .null, [])),
  (37, (.iconst 1, 38, 0, .int (1 : Int32), [])),
  (38, (.isub, 39, 0, .null, [])),
  (39, (.i2l, 40, 0, .null, [])),
  (40, (.invokestatic 96, 43, 96, .null, [])),
  (43, (.ifCond .ne 7, 46, 50, .null, [])),
  (46, (.iconst 1, 47, 0, .int (1 : Int32), [])),
  (47, (.goto 4, 50, 51, .null, [])),
  (50, (.iconst 0, 51, 0, .int (0 : Int32), [])),
  (51, (.ireturn, 52, 0, .null, []))]
def mM_isOff : List (Nat × XM) := [(96, (3, 1, none, FM_in)), (165, (3, 1, some 9, FM_columnOf)), (168, (2, 1, none, FM_rowOf))]
abbrev BM_isOff : XB := (rM_isOff, XFT_M, mM_isOff, 6, XST_M)
set_option maxRecDepth 100000 in
theorem kM_isOff : XOK BM_isOff cX9_isOff 4 RX9 1 25 := xok_of (cps := []) (K := XKT_M) (by decide +kernel) XKT_M_ok (fun _ h => absurd h List.not_mem_nil) XFT_M_ok (List.forall_mem_cons.mpr ⟨⟨_, _, _, _, _, _, SM_in, Nat.le_of_ble_eq_true rfl, Nat.le_of_ble_eq_true rfl, cdM_in, lkM_96, imM_in, inM_in, pmM_in⟩, List.forall_mem_cons.mpr ⟨⟨_, _, _, _, _, _, _, SM_columnOf, rfl, rfl, Nat.le_of_ble_eq_true rfl, Nat.le_of_ble_eq_true rfl, cdM_columnOf, lkM_165, imM_columnOf, slM_columnOf, inM_columnOf, pmM_columnOf⟩, List.forall_mem_cons.mpr ⟨⟨_, _, _, _, _, _, SM_rowOf, Nat.le_of_ble_eq_true rfl, Nat.le_of_ble_eq_true rfl, cdM_rowOf, lkM_168, imM_rowOf, inM_rowOf, pmM_rowOf⟩, fun _ h => absurd h List.not_mem_nil⟩⟩⟩) XST_M_ok
def wM_isOff (f : Nat → Int32 → Int32 → XH → XR) : List Value → List Value → XH → XR := fun vs st h => match vs, st with
  | [.ref a0, .int x1, .int x2], [] => f a0 x1 x2 h
  | _, _ => none
set_option maxRecDepth 100000 in
theorem eM_isOff (a0 : Nat) (x1 : Int32) (x2 : Int32) (h : XH) : qM_isOff a0 x1 x2 h = xrun BM_isOff (xfind []) 35 0 (List.zip [0, 1, 2] [.ref a0, .int x1, .int x2]) [] h := rfl
theorem tM_isOff : XTo cX9_isOff 4 RX9 6 1 25 0 [0, 1, 2] (wM_isOff (qM_isOff)) := by
  refine XTo.run (B := BM_isOff) (cut := xfind []) kM_isOff (xcuts_ok (fun _ h => absurd h List.not_mem_nil)) 35 (fun vs st h r hr => ?_)
  unfold wM_isOff at hr
  split at hr
  · exact (eM_isOff _ _ _ _).symm.trans hr
  · cases hr
def FM_isOff : List Value → XH → XR := fun vs h => match vs with
  | [.ref a0, .int x1, .int x2] => qM_isOff a0 x1 x2 h
  | _ => none
theorem SM_isOff : XS yX9_isOff cX9_isOff 4 (some .boolean) (xrm 1 25) FM_isOff := by
  refine XS.of (own := RX9) (by decide) rfl (rk := 6) rfl (tM_isOff) (fun vs h r hr => ?_)
  unfold FM_isOff at hr
  split at hr
  · exact ⟨rfl, Nat.le_of_ble_eq_true rfl, hr⟩
  · cases hr
-- LineDiagramModel.isOnLine(II)Z
def rM_isOnLine : List (Nat × XRow) := [(0, (.aload_n 0, 1, 0, .null, [])),
  (1, (.iload_n 1, 2, 1, .null, [])),
  (2, (.iload_n 2, 3, 2, .null, [])),
  (3, (.invokevirtual 165, 6, 165, .null, [])),
  (6, (.iload_n 1, 7, 1, .null, [])),
  (7, (.iload_n 2, 8, 2, .null, [])),
  (8, (.invokestatic 168, 11, 168, .null, [])),
  (11, (.invokestatic 145, 14, 145, .null, [])),
  (14, (.istore_n 3, 15, 3, .null, [])),
  (15, (.iconst 0, 16, 0, .int (0 : Int32), [])),
  (16, (.istore 4, 18, 4, .null, [])),
  (18, (.iconst 0, 19, 0, .int (0 : Int32), [])),
  (19, (.istore 5, 21, 5, .null, [])),
  (21, (.iload 5, 23, 5, .null, [])),
  (23, (.aload_n 0, 24, 0, .null, [])),
  (24, (.getfield 55, 27, 55, .null, [])),
  (27, (.iload_n 1, 28, 1, .null, [])),
  (28, (.iaload, 29, 0, .null, [])),
  (29, (.if_icmp .ge 33, 32, 62, .null, [])),
  (32, (.iload 4, 34, 4, .null, [])),
  (34, (.ifCond .ne 15, 37, 49, .null, [])),
  (37, (.aload_n 0, 38, 0, .null, [])),
  (38, (.getfield 43, 41, 43, .null, [])),
  (41, (.iload_n 3, 42, 3, .null, [])),
  (42, (.iload 5, 44, 5, .null, [])),
  (44, (.iadd, 45, 0, .null, [])),
  (45, (.iaload, 46, 0, .null, [])),
  (46, (.ifCond .eq 7, 49, 53, .null, [])),
  (49, (.iconst 1, 50, 0, .int (1 : Int32), [])),
  (50, (.goto 4, 53, 54, .null, [])),
  (53, (.iconst 0, 54, 0, .int (0 : Int32), [])),
  (54, (.istore 4, 56, 4, .null, [])),
  (56, (.iinc 5 1, 59, 5, .int (1 : Int32), [])),
  (59, (.goto (-38), 62, 21, .null, [])),
  (62, (.iload 4, 64, 4, .null, [])),
  (64, (.ireturn, 65, 0, .null, []))]
def mM_isOnLine : List (Nat × XM) := [(145, (2, 1, none, FM_cell)), (165, (3, 1, some 9, FM_columnOf)), (168, (2, 1, none, FM_rowOf))]
abbrev BM_isOnLine : XB := (rM_isOnLine, XFT_M, mM_isOnLine, 6, XST_M)
set_option maxRecDepth 100000 in
theorem kM_isOnLine : XOK BM_isOnLine cX9_isOnLine 6 RX9 1 23 := xok_of (cps := []) (K := XKT_M) (by decide +kernel) XKT_M_ok (fun _ h => absurd h List.not_mem_nil) XFT_M_ok (List.forall_mem_cons.mpr ⟨⟨_, _, _, _, _, _, SM_cell, Nat.le_of_ble_eq_true rfl, Nat.le_of_ble_eq_true rfl, cdM_cell, lkM_145, imM_cell, inM_cell, pmM_cell⟩, List.forall_mem_cons.mpr ⟨⟨_, _, _, _, _, _, _, SM_columnOf, rfl, rfl, Nat.le_of_ble_eq_true rfl, Nat.le_of_ble_eq_true rfl, cdM_columnOf, lkM_165, imM_columnOf, slM_columnOf, inM_columnOf, pmM_columnOf⟩, List.forall_mem_cons.mpr ⟨⟨_, _, _, _, _, _, SM_rowOf, Nat.le_of_ble_eq_true rfl, Nat.le_of_ble_eq_true rfl, cdM_rowOf, lkM_168, imM_rowOf, inM_rowOf, pmM_rowOf⟩, fun _ h => absurd h List.not_mem_nil⟩⟩⟩) XST_M_ok
def wM_isOnLine_49 (f : Nat → Int32 → Int32 → Int32 → XH → XR) : List Value → List Value → XH → XR := fun vs st h => match vs, st with
  | [.ref a0, .int x1, .int x3, .int x5], [] => f a0 x1 x3 x5 h
  | _, _ => none
def wM_isOnLine_21 (f : Nat → Int32 → Int32 → Int32 → Int32 → XH → XR) : List Value → List Value → XH → XR := fun vs st h => match vs, st with
  | [.ref a0, .int x1, .int x3, .int x4, .int x5], [] => f a0 x1 x3 x4 x5 h
  | _, _ => none
def wM_isOnLine (f : Nat → Int32 → Int32 → XH → XR) : List Value → List Value → XH → XR := fun vs st h => match vs, st with
  | [.ref a0, .int x1, .int x2], [] => f a0 x1 x2 h
  | _, _ => none
set_option maxRecDepth 100000 in
theorem eM_isOnLine_49 (k21 : Nat → Int32 → Int32 → Int32 → Int32 → XH → XR) (a0 : Nat) (x1 : Int32) (x3 : Int32) (x5 : Int32) (h : XH) : qM_isOnLine_49 k21 a0 x1 x3 x5 h = xrun BM_isOnLine (xfind [(21, ([0, 1, 3, 4, 5], wM_isOnLine_21 (k21)))]) 39 49 (List.zip [0, 1, 3, 5] [.ref a0, .int x1, .int x3, .int x5]) [] h := rfl
theorem tM_isOnLine_49 {k21 : Nat → Int32 → Int32 → Int32 → Int32 → XH → XR} (hk21 : XTo cX9_isOnLine 6 RX9 6 1 23 21 [0, 1, 3, 4, 5] (wM_isOnLine_21 k21)) : XTo cX9_isOnLine 6 RX9 6 1 23 49 [0, 1, 3, 5] (wM_isOnLine_49 (qM_isOnLine_49 k21)) := by
  refine XTo.run (B := BM_isOnLine) (cut := xfind [(21, ([0, 1, 3, 4, 5], wM_isOnLine_21 (k21)))]) kM_isOnLine (xcuts_ok (List.forall_mem_cons.mpr ⟨hk21, fun _ h => absurd h List.not_mem_nil⟩)) 39 (fun vs st h r hr => ?_)
  unfold wM_isOnLine_49 at hr
  split at hr
  · exact (eM_isOnLine_49 k21 _ _ _ _ _).symm.trans hr
  · cases hr
set_option maxRecDepth 100000 in
theorem eM_isOnLine_21_b (k21 : Nat → Int32 → Int32 → Int32 → Int32 → XH → XR) (a0 : Nat) (x1 : Int32) (x3 : Int32) (x4 : Int32) (x5 : Int32) (h : XH) : qM_isOnLine_21_b k21 a0 x1 x3 x4 x5 h = xrun BM_isOnLine (xfind [(21, ([0, 1, 3, 4, 5], wM_isOnLine_21 (k21))), (49, ([0, 1, 3, 5], wM_isOnLine_49 (qM_isOnLine_49 k21)))]) 39 21 (List.zip [0, 1, 3, 4, 5] [.ref a0, .int x1, .int x3, .int x4, .int x5]) [] h := rfl
theorem tM_isOnLine_21_b {k21 : Nat → Int32 → Int32 → Int32 → Int32 → XH → XR} (hk21 : XTo cX9_isOnLine 6 RX9 6 1 23 21 [0, 1, 3, 4, 5] (wM_isOnLine_21 k21)) : XTo cX9_isOnLine 6 RX9 6 1 23 21 [0, 1, 3, 4, 5] (wM_isOnLine_21 (qM_isOnLine_21_b k21)) := by
  refine XTo.run (B := BM_isOnLine) (cut := xfind [(21, ([0, 1, 3, 4, 5], wM_isOnLine_21 (k21))), (49, ([0, 1, 3, 5], wM_isOnLine_49 (qM_isOnLine_49 k21)))]) kM_isOnLine (xcuts_ok (List.forall_mem_cons.mpr ⟨hk21, List.forall_mem_cons.mpr ⟨tM_isOnLine_49 hk21, fun _ h => absurd h List.not_mem_nil⟩⟩)) 39 (fun vs st h r hr => ?_)
  unfold wM_isOnLine_21 at hr
  split at hr
  · exact (eM_isOnLine_21_b k21 _ _ _ _ _ _).symm.trans hr
  · cases hr
theorem tM_isOnLine_21 : ∀ n : Nat, XTo cX9_isOnLine 6 RX9 6 1 23 21 [0, 1, 3, 4, 5] (wM_isOnLine_21 (qM_isOnLine_21 n)) := by
  intro n
  induction n with
  | zero =>
    refine XTo.none fun vs st h => ?_
    unfold wM_isOnLine_21
    split <;> rfl
  | succ n ih => exact tM_isOnLine_21_b  ih
set_option maxRecDepth 100000 in
theorem eM_isOnLine (a0 : Nat) (x1 : Int32) (x2 : Int32) (h : XH) : qM_isOnLine a0 x1 x2 h = xrun BM_isOnLine (xfind [(21, ([0, 1, 3, 4, 5], wM_isOnLine_21 (qM_isOnLine_21 LF)))]) 39 0 (List.zip [0, 1, 2] [.ref a0, .int x1, .int x2]) [] h := rfl
theorem tM_isOnLine : XTo cX9_isOnLine 6 RX9 6 1 23 0 [0, 1, 2] (wM_isOnLine (qM_isOnLine)) := by
  refine XTo.run (B := BM_isOnLine) (cut := xfind [(21, ([0, 1, 3, 4, 5], wM_isOnLine_21 (qM_isOnLine_21 LF)))]) kM_isOnLine (xcuts_ok (List.forall_mem_cons.mpr ⟨tM_isOnLine_21 LF, fun _ h => absurd h List.not_mem_nil⟩)) 39 (fun vs st h r hr => ?_)
  unfold wM_isOnLine at hr
  split at hr
  · exact (eM_isOnLine _ _ _ _).symm.trans hr
  · cases hr
def FM_isOnLine : List Value → XH → XR := fun vs h => match vs with
  | [.ref a0, .int x1, .int x2] => qM_isOnLine a0 x1 x2 h
  | _ => none
theorem SM_isOnLine : XS yX9_isOnLine cX9_isOnLine 6 (some .boolean) (xrm 1 23) FM_isOnLine := by
  refine XS.of (own := RX9) (by decide) rfl (rk := 6) rfl (tM_isOnLine) (fun vs h r hr => ?_)
  unfold FM_isOnLine at hr
  split at hr
  · exact ⟨rfl, Nat.le_of_ble_eq_true rfl, hr⟩
  · cases hr
-- LineDiagramModel.others(II)I
def rM_others : List (Nat × XRow) := [(0, (.aload_n 0, 1, 0, .null, [])),
  (1, (.iload_n 1, 2, 1, .null, [])),
  (2, (.iload_n 2, 3, 2, .null, [])),
  (3, (.invokevirtual 165, 6, 165, .null, [])),
  (6, (.iload_n 1, 7, 1, .null, [])),
  (7, (.iload_n 2, 8, 2, .null, [])),
  (8, (.invokestatic 168, 11, 168, .null, [])),
  (11, (.invokestatic 145, 14, 145, .null, [])),
  (14, (.istore_n 3, 15, 3, .null, [])),
  (15, (.iconst 0, 16, 0, .int (0 : Int32), [])),
  (16, (.istore 4, 18, 4, .null, [])),
  (18, (.aload_n 0, 19, 0, .null, [])),
  (19, (.bipush (-2), 21, 0, .int (-2 : Int32), [])),
  (21, (.putfield 171, 24, 171, .null, [])),
  (24, (.iconst 0, 25, 0, .int (0 : Int32), [])),
  (25, (.istore 5, 27, 5, .null, [])),
  (27, (.iload 5, 29, 5, .null, [])),
  (29, (.aload_n 0, 30, 0, .null, [])),
  (30, (.getfield 55, 33, 55, .null, [])),
  (33, (.iload_n 1, 34, 1, .null, [])),
  (34, (.iaload, 35, 0, .null, [])),
  (35, (.if_icmp .ge 49, 38, 84, .null, [])),
  (38, (.aload_n 0, 39, 0, .null, [])),
  (39, (.getfield 58, 42, 58, .null, [])),
  (42, (.iload_n 3, 43, 3, .null, [])),
  (43, (.iload 5, 45, 5, .null, [])),
  (45, (.iadd, 46, 0, .null, [])),
  (46, (.iaload, 47, 0, .null, [])),
  (47, (.istore 6, 49, 6, .null, [])),
  (49, (.iload 6, 51, 6, .null, [])),
  (51, (.ifCond .lt 27, 54, 78, .null, [])),
  (54, (.iload 6, 56, 6, .null, [])),
  (56, (.iload_n 1, 57, 1, .null, [])),
  (57, (.if_icmp .eq 21, 60, 78, .null, [])),
  (60, (.iload 6, 62, 6, .null, [])),
  (62, (.aload_n 0, 63, 0, .null, [])),
  (63, (.getfield 171, 66, 171, .null, [])),
  (66, (.if_icmp .eq 12, 69, 78, .null, [])),
  (69, (.iinc 4 1, 72, 4, .int (1 : Int32), [])),
  (72, (.aload_n 0, 73, 0, .null, [])),
  (73, (.iload 6, 75, 6, .null, [])),
  (75, (.putfield 171, 78, 171, .null, [])),
  (78, (.iinc 5 1, 81, 5, .int (1 : Int32), [])),
  (81, (.goto (-54), 84, 27, .null, [])),
  (84, (.iload 4, 86, 4, .null, [])),
  (86, (.ireturn, 87, 0, .null, []))]
def mM_others : List (Nat × XM) := [(145, (2, 1, none, FM_cell)), (165, (3, 1, some 9, FM_columnOf)), (168, (2, 1, none, FM_rowOf))]
abbrev BM_others : XB := (rM_others, XFT_M, mM_others, 1, XST_M)
set_option maxRecDepth 100000 in
theorem kM_others : XOK BM_others cX9_others 7 RX9 1 23 := xok_of (cps := []) (K := XKT_M) (by decide +kernel) XKT_M_ok (fun _ h => absurd h List.not_mem_nil) XFT_M_ok (List.forall_mem_cons.mpr ⟨⟨_, _, _, _, _, _, SM_cell, Nat.le_of_ble_eq_true rfl, Nat.le_of_ble_eq_true rfl, cdM_cell, lkM_145, imM_cell, inM_cell, pmM_cell⟩, List.forall_mem_cons.mpr ⟨⟨_, _, _, _, _, _, _, SM_columnOf, rfl, rfl, Nat.le_of_ble_eq_true rfl, Nat.le_of_ble_eq_true rfl, cdM_columnOf, lkM_165, imM_columnOf, slM_columnOf, inM_columnOf, pmM_columnOf⟩, List.forall_mem_cons.mpr ⟨⟨_, _, _, _, _, _, SM_rowOf, Nat.le_of_ble_eq_true rfl, Nat.le_of_ble_eq_true rfl, cdM_rowOf, lkM_168, imM_rowOf, inM_rowOf, pmM_rowOf⟩, fun _ h => absurd h List.not_mem_nil⟩⟩⟩) XST_M_ok
def wM_others_27 (f : Nat → Int32 → Int32 → Int32 → Int32 → XH → XR) : List Value → List Value → XH → XR := fun vs st h => match vs, st with
  | [.ref a0, .int x1, .int x3, .int x4, .int x5], [] => f a0 x1 x3 x4 x5 h
  | _, _ => none
def wM_others (f : Nat → Int32 → Int32 → XH → XR) : List Value → List Value → XH → XR := fun vs st h => match vs, st with
  | [.ref a0, .int x1, .int x2], [] => f a0 x1 x2 h
  | _, _ => none
set_option maxRecDepth 100000 in
theorem eM_others_27_b (k27 : Nat → Int32 → Int32 → Int32 → Int32 → XH → XR) (a0 : Nat) (x1 : Int32) (x3 : Int32) (x4 : Int32) (x5 : Int32) (h : XH) : qM_others_27_b k27 a0 x1 x3 x4 x5 h = xrun BM_others (xfind [(27, ([0, 1, 3, 4, 5], wM_others_27 (k27)))]) 49 27 (List.zip [0, 1, 3, 4, 5] [.ref a0, .int x1, .int x3, .int x4, .int x5]) [] h := rfl
theorem tM_others_27_b {k27 : Nat → Int32 → Int32 → Int32 → Int32 → XH → XR} (hk27 : XTo cX9_others 7 RX9 1 1 23 27 [0, 1, 3, 4, 5] (wM_others_27 k27)) : XTo cX9_others 7 RX9 1 1 23 27 [0, 1, 3, 4, 5] (wM_others_27 (qM_others_27_b k27)) := by
  refine XTo.run (B := BM_others) (cut := xfind [(27, ([0, 1, 3, 4, 5], wM_others_27 (k27)))]) kM_others (xcuts_ok (List.forall_mem_cons.mpr ⟨hk27, fun _ h => absurd h List.not_mem_nil⟩)) 49 (fun vs st h r hr => ?_)
  unfold wM_others_27 at hr
  split at hr
  · exact (eM_others_27_b k27 _ _ _ _ _ _).symm.trans hr
  · cases hr
theorem tM_others_27 : ∀ n : Nat, XTo cX9_others 7 RX9 1 1 23 27 [0, 1, 3, 4, 5] (wM_others_27 (qM_others_27 n)) := by
  intro n
  induction n with
  | zero =>
    refine XTo.none fun vs st h => ?_
    unfold wM_others_27
    split <;> rfl
  | succ n ih => exact tM_others_27_b  ih
set_option maxRecDepth 100000 in
theorem eM_others (a0 : Nat) (x1 : Int32) (x2 : Int32) (h : XH) : qM_others a0 x1 x2 h = xrun BM_others (xfind [(27, ([0, 1, 3, 4, 5], wM_others_27 (qM_others_27 LF)))]) 49 0 (List.zip [0, 1, 2] [.ref a0, .int x1, .int x2]) [] h := rfl
theorem tM_others : XTo cX9_others 7 RX9 1 1 23 0 [0, 1, 2] (wM_others (qM_others)) := by
  refine XTo.run (B := BM_others) (cut := xfind [(27, ([0, 1, 3, 4, 5], wM_others_27 (qM_others_27 LF)))]) kM_others (xcuts_ok (List.forall_mem_cons.mpr ⟨tM_others_27 LF, fun _ h => absurd h List.not_mem_nil⟩)) 49 (fun vs st h r hr => ?_)
  unfold wM_others at hr
  split at hr
  · exact (eM_others _ _ _ _).symm.trans hr
  · cases hr
def FM_others : List Value → XH → XR := fun vs h => match vs with
  | [.ref a0, .int x1, .int x2] => qM_others a0 x1 x2 h
  | _ => none
theorem SM_others : XS yX9_others cX9_others 7 (some .int) (xrm 1 23) FM_others := by
  refine XS.of (own := RX9) (by decide) rfl (rk := 1) rfl (tM_others) (fun vs h r hr => ?_)
  unfold FM_others at hr
  split at hr
  · exact ⟨rfl, Nat.le_of_ble_eq_true rfl, hr⟩
  · cases hr
-- LineDiagramModel.whyNot(II)I
def rM_whyNot : List (Nat × XRow) := [(0, (.aload_n 0, 1, 0, .null, [])),
  (1, (.iload_n 1, 2, 1, .null, [])),
  (2, (.iload_n 2, 3, 2, .null, [])),
  (3, (.invokevirtual 174, 6, 174, .null, [])),
  (6, (.ifCond .eq 6, 9, 12, .null, [])),
  (9, (.bipush (-5), 11, 0, .int (-5 : Int32), [])),
  (11, (.ireturn, 12, 0, .null, [])),
  (12, (.aload_n 0, 13, 0, .null, [])),
  (13, (.iload_n 1, 14, 1, .null, [])),
  (14, (.iload_n 2, 15, 2, .null, [])),
  (15, (.invokevirtual 178, 18, 178, .null, [])),
  (18, (.ifCond .eq 8, 21, 26, .null, [])),
  (21, (.bipush (-6), 23, 0, .int (-6 : Int32), [])),
  (23, (.goto 18, 26, 41, .null, [])),
  (26, (.aload_n 0, 27, 0, .null, [])),
  (27, (.iload_n 1, 28, 1, .null, [])),
  (28, (.iload_n 2, 29, 2, .null, [])),
  (29, (.invokevirtual 181, 32, 181, .null, [])),
  (32, (.ifCond .le 8, 35, 40, .null, [])),
  (35, (.bipush (-7), 37, 0, .int (-7 : Int32), [])),
  (37, (.goto 4, 40, 41, .null, [])),
  (40, (.iconst 0, 41, 0, .int (0 : Int32), [])),
  (41, (.ireturn, 42, 0, .null, []))]
def mM_whyNot : List (Nat × XM) := [(174, (3, 1, some 9, FM_isOff)), (178, (3, 1, some 9, FM_isOnLine)), (181, (3, 1, some 9, FM_others))]
abbrev BM_whyNot : XB := (rM_whyNot, XFT_M, mM_whyNot, 1, XST_M)
set_option maxRecDepth 100000 in
theorem kM_whyNot : XOK BM_whyNot cX9_whyNot 3 RX9 2 49 := xok_of (cps := []) (K := XKT_M) (by decide +kernel) XKT_M_ok (fun _ h => absurd h List.not_mem_nil) XFT_M_ok (List.forall_mem_cons.mpr ⟨⟨_, _, _, _, _, _, _, SM_isOff, rfl, rfl, Nat.le_of_ble_eq_true rfl, Nat.le_of_ble_eq_true rfl, cdM_isOff, lkM_174, imM_isOff, slM_isOff, inM_isOff, pmM_isOff⟩, List.forall_mem_cons.mpr ⟨⟨_, _, _, _, _, _, _, SM_isOnLine, rfl, rfl, Nat.le_of_ble_eq_true rfl, Nat.le_of_ble_eq_true rfl, cdM_isOnLine, lkM_178, imM_isOnLine, slM_isOnLine, inM_isOnLine, pmM_isOnLine⟩, List.forall_mem_cons.mpr ⟨⟨_, _, _, _, _, _, _, SM_others, rfl, rfl, Nat.le_of_ble_eq_true rfl, Nat.le_of_ble_eq_true rfl, cdM_others, lkM_181, imM_others, slM_others, inM_others, pmM_others⟩, fun _ h => absurd h List.not_mem_nil⟩⟩⟩) XST_M_ok
def wM_whyNot (f : Nat → Int32 → Int32 → XH → XR) : List Value → List Value → XH → XR := fun vs st h => match vs, st with
  | [.ref a0, .int x1, .int x2], [] => f a0 x1 x2 h
  | _, _ => none
set_option maxRecDepth 100000 in
theorem eM_whyNot (a0 : Nat) (x1 : Int32) (x2 : Int32) (h : XH) : qM_whyNot a0 x1 x2 h = xrun BM_whyNot (xfind []) 26 0 (List.zip [0, 1, 2] [.ref a0, .int x1, .int x2]) [] h := rfl
theorem tM_whyNot : XTo cX9_whyNot 3 RX9 1 2 49 0 [0, 1, 2] (wM_whyNot (qM_whyNot)) := by
  refine XTo.run (B := BM_whyNot) (cut := xfind []) kM_whyNot (xcuts_ok (fun _ h => absurd h List.not_mem_nil)) 26 (fun vs st h r hr => ?_)
  unfold wM_whyNot at hr
  split at hr
  · exact (eM_whyNot _ _ _ _).symm.trans hr
  · cases hr
def FM_whyNot : List Value → XH → XR := fun vs h => match vs with
  | [.ref a0, .int x1, .int x2] => qM_whyNot a0 x1 x2 h
  | _ => none
theorem SM_whyNot : XS yX9_whyNot cX9_whyNot 3 (some .int) (xrm 2 49) FM_whyNot := by
  refine XS.of (own := RX9) (by decide) rfl (rk := 1) rfl (tM_whyNot) (fun vs h r hr => ?_)
  unfold FM_whyNot at hr
  split at hr
  · exact ⟨rfl, Nat.le_of_ble_eq_true rfl, hr⟩
  · cases hr
-- LineDiagramModel.refits()I
def rM_refits : List (Nat × XRow) := [(0, (.aload_n 0, 1, 0, .null, [])),
  (1, (.invokevirtual 190, 4, 190, .null, [])),
  (4, (.aload_n 0, 5, 0, .null, [])),
  (5, (.invokevirtual 193, 8, 193, .null, [])),
  (8, (.iconst 0, 9, 0, .int (0 : Int32), [])),
  (9, (.istore_n 1, 10, 1, .null, [])),
  (10, (.iconst 0, 11, 0, .int (0 : Int32), [])),
  (11, (.istore_n 2, 12, 2, .null, [])),
  (12, (.iload_n 2, 13, 2, .null, [])),
  (13, (.sipush 1600, 16, 0, .int (1600 : Int32), [])),
  (16, (.if_icmp .ge 70, 19, 86, .null, [])),
  (19, (.aload_n 0, 20, 0, .null, [])),
  (20, (.iload_n 2, 21, 2, .null, [])),
  (21, (.invokevirtual 187, 24, 187, .null, [])),
  (24, (.ifCond .ge 6, 27, 30, .null, [])),
  (27, (.goto 53, 30, 80, .null, [])),
  (30, (.aload_n 0, 31, 0, .null, [])),
  (31, (.iload_n 2, 32, 2, .null, [])),
  (32, (.invokevirtual 196, 35, 196, .null, [])),
  (35, (.ifCond .eq 30, 38, 65, .null, [])),
  (38, (.aload_n 0, 39, 0, .null, [])),
  (39, (.iload_n 2, 40, 2, .null, [])),
  (40, (.aload_n 0, 41, 0, .null, [])),
  (41, (.iload_n 2, 42, 2, .null, [])),
  (42, (.invokevirtual 187, 45, 187, .null, [])),
  (45, (.invokevirtual 199, 48, 199, .null, [])),
  (48, (.ifCond .ne 17, 51, 65, .null, [])),
  (51, (.aload_n 0, 52, 0, .null, [])),
  (52, (.iload_n 2, 53, 2, .null, [])),
  (53, (.aload_n 0, 54, 0, .null, [])),
  (54, (.iload_n 2, 55, 2, .null, [])),
  (55, (.invokevirtual 187, 58, 187, .null, [])),
  (58, (.iload_n 2, 59, 2, .null, [])),
  (59, (.invokevirtual 184, 62, 184, .null, [])),
  (62, (.goto 18, 65, 80, .null, [])),
  (65, (.aload_n 0, 66, 0, .null, [])),
  (66, (.getfield 21, 69, 21, .null, [])),
  (69, (.sipush 184, 72, 0, .int (184 : Int32), [])),
  (72, (.iload_n 2, 73, 2, .null, [])),
  (73, (.iadd, 74, 0, .null, [])),
  (74, (.bipush (-2), 76, 0, .int (-2 : Int32), [])),
  (76, (.iastore, 77, 0, .null, [])),
  (77, (.iinc 1 1, 80, 1, .int (1 : Int32), [])),
  (80, (.iinc 2 1, 83, 2, .int (1 : Int32), [])),
  (83, (.goto (-71), 86, 12, .null, [])),
  (86, (.iload_n 1, 87, 1, .null, [])),
  (87, (.ireturn, 88, 0, .null, []))]
def mM_refits : List (Nat × XM) := [(184, (4, 0, some 9, FM_laysLabel)), (187, (2, 1, some 9, FM_labelOf)), (190, (1, 0, some 9, FM_laysLines)), (193, (1, 0, some 9, FM_clearsLabels)), (196, (2, 1, some 9, FM_isPlace)), (199, (3, 1, some 9, FM_whyNot))]
abbrev BM_refits : XB := (rM_refits, XFT_M, mM_refits, 1, XST_M)
set_option maxRecDepth 100000 in
theorem kM_refits : XOK BM_refits cX9_refits 3 RX9 5 117 := xok_of (cps := []) (K := XKT_M) (by decide +kernel) XKT_M_ok (fun _ h => absurd h List.not_mem_nil) XFT_M_ok (List.forall_mem_cons.mpr ⟨⟨_, _, _, _, _, _, _, SM_laysLabel, rfl, rfl, Nat.le_of_ble_eq_true rfl, Nat.le_of_ble_eq_true rfl, cdM_laysLabel, lkM_184, imM_laysLabel, slM_laysLabel, inM_laysLabel, pmM_laysLabel⟩, List.forall_mem_cons.mpr ⟨⟨_, _, _, _, _, _, _, SM_labelOf, rfl, rfl, Nat.le_of_ble_eq_true rfl, Nat.le_of_ble_eq_true rfl, cdM_labelOf, lkM_187, imM_labelOf, slM_labelOf, inM_labelOf, pmM_labelOf⟩, List.forall_mem_cons.mpr ⟨⟨_, _, _, _, _, _, _, SM_laysLines, rfl, rfl, Nat.le_of_ble_eq_true rfl, Nat.le_of_ble_eq_true rfl, cdM_laysLines, lkM_190, imM_laysLines, slM_laysLines, inM_laysLines, pmM_laysLines⟩, List.forall_mem_cons.mpr ⟨⟨_, _, _, _, _, _, _, SM_clearsLabels, rfl, rfl, Nat.le_of_ble_eq_true rfl, Nat.le_of_ble_eq_true rfl, cdM_clearsLabels, lkM_193, imM_clearsLabels, slM_clearsLabels, inM_clearsLabels, pmM_clearsLabels⟩, List.forall_mem_cons.mpr ⟨⟨_, _, _, _, _, _, _, SM_isPlace, rfl, rfl, Nat.le_of_ble_eq_true rfl, Nat.le_of_ble_eq_true rfl, cdM_isPlace, lkM_196, imM_isPlace, slM_isPlace, inM_isPlace, pmM_isPlace⟩, List.forall_mem_cons.mpr ⟨⟨_, _, _, _, _, _, _, SM_whyNot, rfl, rfl, Nat.le_of_ble_eq_true rfl, Nat.le_of_ble_eq_true rfl, cdM_whyNot, lkM_199, imM_whyNot, slM_whyNot, inM_whyNot, pmM_whyNot⟩, fun _ h => absurd h List.not_mem_nil⟩⟩⟩⟩⟩⟩) XST_M_ok
def wM_refits_65 (f : Nat → Int32 → Int32 → XH → XR) : List Value → List Value → XH → XR := fun vs st h => match vs, st with
  | [.ref a0, .int x1, .int x2], [] => f a0 x1 x2 h
  | _, _ => none
def wM_refits_12 (f : Nat → Int32 → Int32 → XH → XR) : List Value → List Value → XH → XR := fun vs st h => match vs, st with
  | [.ref a0, .int x1, .int x2], [] => f a0 x1 x2 h
  | _, _ => none
def wM_refits (f : Nat → XH → XR) : List Value → List Value → XH → XR := fun vs st h => match vs, st with
  | [.ref a0], [] => f a0 h
  | _, _ => none
set_option maxRecDepth 100000 in
theorem eM_refits_65 (k12 : Nat → Int32 → Int32 → XH → XR) (a0 : Nat) (x1 : Int32) (x2 : Int32) (h : XH) : qM_refits_65 k12 a0 x1 x2 h = xrun BM_refits (xfind [(12, ([0, 1, 2], wM_refits_12 (k12)))]) 50 65 (List.zip [0, 1, 2] [.ref a0, .int x1, .int x2]) [] h := rfl
theorem tM_refits_65 {k12 : Nat → Int32 → Int32 → XH → XR} (hk12 : XTo cX9_refits 3 RX9 1 5 117 12 [0, 1, 2] (wM_refits_12 k12)) : XTo cX9_refits 3 RX9 1 5 117 65 [0, 1, 2] (wM_refits_65 (qM_refits_65 k12)) := by
  refine XTo.run (B := BM_refits) (cut := xfind [(12, ([0, 1, 2], wM_refits_12 (k12)))]) kM_refits (xcuts_ok (List.forall_mem_cons.mpr ⟨hk12, fun _ h => absurd h List.not_mem_nil⟩)) 50 (fun vs st h r hr => ?_)
  unfold wM_refits_65 at hr
  split at hr
  · exact (eM_refits_65 k12 _ _ _ _).symm.trans hr
  · cases hr
set_option maxRecDepth 100000 in
theorem eM_refits_12_b (k12 : Nat → Int32 → Int32 → XH → XR) (a0 : Nat) (x1 : Int32) (x2 : Int32) (h : XH) : qM_refits_12_b k12 a0 x1 x2 h = xrun BM_refits (xfind [(12, ([0, 1, 2], wM_refits_12 (k12))), (65, ([0, 1, 2], wM_refits_65 (qM_refits_65 k12)))]) 50 12 (List.zip [0, 1, 2] [.ref a0, .int x1, .int x2]) [] h := rfl
theorem tM_refits_12_b {k12 : Nat → Int32 → Int32 → XH → XR} (hk12 : XTo cX9_refits 3 RX9 1 5 117 12 [0, 1, 2] (wM_refits_12 k12)) : XTo cX9_refits 3 RX9 1 5 117 12 [0, 1, 2] (wM_refits_12 (qM_refits_12_b k12)) := by
  refine XTo.run (B := BM_refits) (cut := xfind [(12, ([0, 1, 2], wM_refits_12 (k12))), (65, ([0, 1, 2], wM_refits_65 (qM_refits_65 k12)))]) kM_refits (xcuts_ok (List.forall_mem_cons.mpr ⟨hk12, List.forall_mem_cons.mpr ⟨tM_refits_65 hk12, fun _ h => absurd h List.not_mem_nil⟩⟩)) 50 (fun vs st h r hr => ?_)
  unfold wM_refits_12 at hr
  split at hr
  · exact (eM_refits_12_b k12 _ _ _ _).symm.trans hr
  · cases hr
theorem tM_refits_12 : ∀ n : Nat, XTo cX9_refits 3 RX9 1 5 117 12 [0, 1, 2] (wM_refits_12 (qM_refits_12 n)) := by
  intro n
  induction n with
  | zero =>
    refine XTo.none fun vs st h => ?_
    unfold wM_refits_12
    split <;> rfl
  | succ n ih => exact tM_refits_12_b  ih
set_option maxRecDepth 100000 in
theorem eM_refits (a0 : Nat) (h : XH) : qM_refits a0 h = xrun BM_refits (xfind [(12, ([0, 1, 2], wM_refits_12 (qM_refits_12 LF)))]) 50 0 (List.zip [0] [.ref a0]) [] h := rfl
theorem tM_refits : XTo cX9_refits 3 RX9 1 5 117 0 [0] (wM_refits (qM_refits)) := by
  refine XTo.run (B := BM_refits) (cut := xfind [(12, ([0, 1, 2], wM_refits_12 (qM_refits_12 LF)))]) kM_refits (xcuts_ok (List.forall_mem_cons.mpr ⟨tM_refits_12 LF, fun _ h => absurd h List.not_mem_nil⟩)) 50 (fun vs st h r hr => ?_)
  unfold wM_refits at hr
  split at hr
  · exact (eM_refits _ _).symm.trans hr
  · cases hr
def FM_refits : List Value → XH → XR := fun vs h => match vs with
  | [.ref a0] => qM_refits a0 h
  | _ => none
theorem SM_refits : XS yX9_refits cX9_refits 3 (some .int) (xrm 5 117) FM_refits := by
  refine XS.of (own := RX9) (by decide) rfl (rk := 1) rfl (tM_refits) (fun vs h r hr => ?_)
  unfold FM_refits at hr
  split at hr
  · exact ⟨rfl, Nat.le_of_ble_eq_true rfl, hr⟩
  · cases hr
-- LineDiagramModel.swaps()V
def rM_swaps : List (Nat × XRow) := [(0, (.iconst 0, 1, 0, .int (0 : Int32), [])),
  (1, (.istore_n 1, 2, 1, .null, [])),
  (2, (.iload_n 1, 3, 1, .null, [])),
  (3, (.sipush 1784, 6, 0, .int (1784 : Int32), [])),
  (6, (.if_icmp .ge 35, 9, 41, .null, [])),
  (9, (.aload_n 0, 10, 0, .null, [])),
  (10, (.getfield 21, 13, 21, .null, [])),
  (13, (.iload_n 1, 14, 1, .null, [])),
  (14, (.iaload, 15, 0, .null, [])),
  (15, (.istore_n 2, 16, 2, .null, [])),
  (16, (.aload_n 0, 17, 0, .null, [])),
  (17, (.getfield 21, 20, 21, .null, [])),
  (20, (.iload_n 1, 21, 1, .null, [])),
  (21, (.aload_n 0, 22, 0, .null, [])),
  (22, (.getfield 24, 25, 24, .null, [])),
  (25, (.iload_n 1, 26, 1, .null, [])),
  (26, (.iaload, 27, 0, .null, [])),
  (27, (.iastore, 28, 0, .null, [])),
  (28, (.aload_n 0, 29, 0, .null, [])),
  (29, (.getfield 24, 32, 24, .null, [])),
  (32, (.iload_n 1, 33, 1, .null, [])),
  (33, (.iload_n 2, 34, 2, .null, [])),
  (34, (.iastore, 35, 0, .null, [])),
  (35, (.iinc 1 1, 38, 1, .int (1 : Int32), [])),
  (38, (.goto (-36), 41, 2, .null, [])),
  (41, (.return_, 42, 0, .null, []))]
def mM_swaps : List (Nat × XM) := []
abbrev BM_swaps : XB := (rM_swaps, XFT_M, mM_swaps, 0, XST_M)
set_option maxRecDepth 100000 in
theorem kM_swaps : XOK BM_swaps cX9_swaps 3 RX9 0 0 := xok_of (cps := []) (K := XKT_M) (by decide +kernel) XKT_M_ok (fun _ h => absurd h List.not_mem_nil) XFT_M_ok (fun _ h => absurd h List.not_mem_nil) XST_M_ok
def wM_swaps_2 (f : Nat → Int32 → XH → XR) : List Value → List Value → XH → XR := fun vs st h => match vs, st with
  | [.ref a0, .int x1], [] => f a0 x1 h
  | _, _ => none
def wM_swaps (f : Nat → XH → XR) : List Value → List Value → XH → XR := fun vs st h => match vs, st with
  | [.ref a0], [] => f a0 h
  | _, _ => none
set_option maxRecDepth 100000 in
theorem eM_swaps_2_b (k2 : Nat → Int32 → XH → XR) (a0 : Nat) (x1 : Int32) (h : XH) : qM_swaps_2_b k2 a0 x1 h = xrun BM_swaps (xfind [(2, ([0, 1], wM_swaps_2 (k2)))]) 29 2 (List.zip [0, 1] [.ref a0, .int x1]) [] h := rfl
theorem tM_swaps_2_b {k2 : Nat → Int32 → XH → XR} (hk2 : XTo cX9_swaps 3 RX9 0 0 0 2 [0, 1] (wM_swaps_2 k2)) : XTo cX9_swaps 3 RX9 0 0 0 2 [0, 1] (wM_swaps_2 (qM_swaps_2_b k2)) := by
  refine XTo.run (B := BM_swaps) (cut := xfind [(2, ([0, 1], wM_swaps_2 (k2)))]) kM_swaps (xcuts_ok (List.forall_mem_cons.mpr ⟨hk2, fun _ h => absurd h List.not_mem_nil⟩)) 29 (fun vs st h r hr => ?_)
  unfold wM_swaps_2 at hr
  split at hr
  · exact (eM_swaps_2_b k2 _ _ _).symm.trans hr
  · cases hr
theorem tM_swaps_2 : ∀ n : Nat, XTo cX9_swaps 3 RX9 0 0 0 2 [0, 1] (wM_swaps_2 (qM_swaps_2 n)) := by
  intro n
  induction n with
  | zero =>
    refine XTo.none fun vs st h => ?_
    unfold wM_swaps_2
    split <;> rfl
  | succ n ih => exact tM_swaps_2_b  ih
set_option maxRecDepth 100000 in
theorem eM_swaps (a0 : Nat) (h : XH) : qM_swaps a0 h = xrun BM_swaps (xfind [(2, ([0, 1], wM_swaps_2 (qM_swaps_2 LF)))]) 29 0 (List.zip [0] [.ref a0]) [] h := rfl
theorem tM_swaps : XTo cX9_swaps 3 RX9 0 0 0 0 [0] (wM_swaps (qM_swaps)) := by
  refine XTo.run (B := BM_swaps) (cut := xfind [(2, ([0, 1], wM_swaps_2 (qM_swaps_2 LF)))]) kM_swaps (xcuts_ok (List.forall_mem_cons.mpr ⟨tM_swaps_2 LF, fun _ h => absurd h List.not_mem_nil⟩)) 29 (fun vs st h r hr => ?_)
  unfold wM_swaps at hr
  split at hr
  · exact (eM_swaps _ _).symm.trans hr
  · cases hr
def FM_swaps : List Value → XH → XR := fun vs h => match vs with
  | [.ref a0] => qM_swaps a0 h
  | _ => none
theorem SM_swaps : XS yX9_swaps cX9_swaps 3 none (xrm 0 0) FM_swaps := by
  refine XS.of (own := RX9) (by decide) rfl (rk := 0) rfl (tM_swaps) (fun vs h r hr => ?_)
  unfold FM_swaps at hr
  split at hr
  · exact ⟨rfl, Nat.le_of_ble_eq_true rfl, hr⟩
  · cases hr
-- LineDiagramModel.remembers()V
def rM_remembers : List (Nat × XRow) := [(0, (.aload_n 0, 1, 0, .null, [])),
  (1, (.getfield 85, 4, 85, .null, [])),
  (4, (.bipush 8, 6, 0, .int (8 : Int32), [])),
  (6, (.if_icmp .ne 46, 9, 52, .null, [])),
  (9, (.sipush 1784, 12, 0, .int (1784 : Int32), [])),
  (12, (.istore_n 1, 13, 1, .null, [])),
  (13, (.iload_n 1, 14, 1, .null, [])),
  (14, (.sipush 14272, 17, 0, .int (14272 : Int32), [])),
  (17, (.if_icmp .ge 25, 20, 42, .null, [])),
  (20, (.aload_n 0, 21, 0, .null, [])),
  (21, (.getfield 27, 24, 27, .null, [])),
  (24, (.iload_n 1, 25, 1, .null, [])),
  (25, (.sipush 1784, 28, 0, .int (1784 : Int32), [])),
  (28, (.isub, 29, 0, .null, [])),
  (29, (.aload_n 0, 30, 0, .null, [])),
  (30, (.getfield 27, 33, 27, .null, [])),
  (33, (.iload_n 1, 34, 1, .null, [])),
  (34, (.iaload, 35, 0, .null, [])),
  (35, (.iastore, 36, 0, .null, [])),
  (36, (.iinc 1 1, 39, 1, .int (1 : Int32), [])),
  (39, (.goto (-26), 42, 13, .null, [])),
  (42, (.aload_n 0, 43, 0, .null, [])),
  (43, (.dup, 44, 0, .null, [])),
  (44, (.getfield 85, 47, 85, .null, [])),
  (47, (.iconst 1, 48, 0, .int (1 : Int32), [])),
  (48, (.isub, 49, 0, .null, [])),
  (49, (.putfield 85, 52, 85, .null, [])),
  (52, (.iconst 0, 53, 0, .int (0 : Int32), [])),
  (53, (.istore_n 1, 54, 1, .null, [])),
  (54, (.iload_n 1, 55, 1, .null, [])),
  (55, (.sipush 1784, 58, 0, .int (1784 : Int32), [])),
  (58, (.if_icmp .ge 30, 61, 88, .null, [])),
  (61, (.aload_n 0, 62, 0, .null, [])),
  (62, (.getfield 27, 65, 27, .null, [])),
  (65, (.sipush 1784, 68, 0, .int (1784 : Int32), [])),
  (68, (.aload_n 0, 69, 0, .null, [])),
  (69, (.getfield 85, 72, 85, .null, [])),
  (72, (.imul, 73, 0, .null, [])),
  (73, (.iload_n 1, 74, 1, .null, [])),
  (74, (.iadd, 75, 0, .null, [])),
  (75, (.aload_n 0, 76, 0, .null, [])),
  (76, (.getfield 21, 79, 21, .null, [])),
  (79, (.iload_n 1, 80, 1, .null, [])),
  (80, (.iaload, 81, 0, .null, [])),
  (81, (.iastore, 82, 0, .null, [])),
  (82, (.iinc 1 1, 85, 1, .int (1 : Int32), [])),
  (85, (.goto (-31), 88, 54, .null, [])),
  (88, (.aload_n 0, 89, 0, .null, [])),
  (89, (.dup, 90, 0, .null, [])),
  (90, (.getfield 85, 93, 85, .null, [])),
  (93, (.iconst 1, 94, 0, .int (1 : Int32), [])),
  (94, (.iadd, 95, 0, .null, [])),
  (95, (.putfield 85, 98, 85, .null, [])),
  (98, (.return_, 99, 0, .null, []))]
def mM_remembers : List (Nat × XM) := []
abbrev BM_remembers : XB := (rM_remembers, XFT_M, mM_remembers, 0, XST_M)
set_option maxRecDepth 100000 in
theorem kM_remembers : XOK BM_remembers cX9_remembers 2 RX9 0 0 := xok_of (cps := []) (K := XKT_M) (by decide +kernel) XKT_M_ok (fun _ h => absurd h List.not_mem_nil) XFT_M_ok (fun _ h => absurd h List.not_mem_nil) XST_M_ok
def wM_remembers_88 (f : Nat → XH → XR) : List Value → List Value → XH → XR := fun vs st h => match vs, st with
  | [.ref a0], [] => f a0 h
  | _, _ => none
def wM_remembers_54 (f : Nat → Int32 → XH → XR) : List Value → List Value → XH → XR := fun vs st h => match vs, st with
  | [.ref a0, .int x1], [] => f a0 x1 h
  | _, _ => none
def wM_remembers_42 (f : Nat → XH → XR) : List Value → List Value → XH → XR := fun vs st h => match vs, st with
  | [.ref a0], [] => f a0 h
  | _, _ => none
def wM_remembers_13 (f : Nat → Int32 → XH → XR) : List Value → List Value → XH → XR := fun vs st h => match vs, st with
  | [.ref a0, .int x1], [] => f a0 x1 h
  | _, _ => none
def wM_remembers (f : Nat → XH → XR) : List Value → List Value → XH → XR := fun vs st h => match vs, st with
  | [.ref a0], [] => f a0 h
  | _, _ => none
set_option maxRecDepth 100000 in
theorem eM_remembers_88 (a0 : Nat) (h : XH) : qM_remembers_88 a0 h = xrun BM_remembers (xfind []) 57 88 (List.zip [0] [.ref a0]) [] h := rfl
theorem tM_remembers_88 : XTo cX9_remembers 2 RX9 0 0 0 88 [0] (wM_remembers_88 (qM_remembers_88)) := by
  refine XTo.run (B := BM_remembers) (cut := xfind []) kM_remembers (xcuts_ok (fun _ h => absurd h List.not_mem_nil)) 57 (fun vs st h r hr => ?_)
  unfold wM_remembers_88 at hr
  split at hr
  · exact (eM_remembers_88 _ _).symm.trans hr
  · cases hr
set_option maxRecDepth 100000 in
theorem eM_remembers_54_b (k54 : Nat → Int32 → XH → XR) (a0 : Nat) (x1 : Int32) (h : XH) : qM_remembers_54_b k54 a0 x1 h = xrun BM_remembers (xfind [(54, ([0, 1], wM_remembers_54 (k54))), (88, ([0], wM_remembers_88 (qM_remembers_88)))]) 57 54 (List.zip [0, 1] [.ref a0, .int x1]) [] h := rfl
theorem tM_remembers_54_b {k54 : Nat → Int32 → XH → XR} (hk54 : XTo cX9_remembers 2 RX9 0 0 0 54 [0, 1] (wM_remembers_54 k54)) : XTo cX9_remembers 2 RX9 0 0 0 54 [0, 1] (wM_remembers_54 (qM_remembers_54_b k54)) := by
  refine XTo.run (B := BM_remembers) (cut := xfind [(54, ([0, 1], wM_remembers_54 (k54))), (88, ([0], wM_remembers_88 (qM_remembers_88)))]) kM_remembers (xcuts_ok (List.forall_mem_cons.mpr ⟨hk54, List.forall_mem_cons.mpr ⟨tM_remembers_88, fun _ h => absurd h List.not_mem_nil⟩⟩)) 57 (fun vs st h r hr => ?_)
  unfold wM_remembers_54 at hr
  split at hr
  · exact (eM_remembers_54_b k54 _ _ _).symm.trans hr
  · cases hr
theorem tM_remembers_54 : ∀ n : Nat, XTo cX9_remembers 2 RX9 0 0 0 54 [0, 1] (wM_remembers_54 (qM_remembers_54 n)) := by
  intro n
  induction n with
  | zero =>
    refine XTo.none fun vs st h => ?_
    unfold wM_remembers_54
    split <;> rfl
  | succ n ih => exact tM_remembers_54_b  ih
set_option maxRecDepth 100000 in
theorem eM_remembers_42 (a0 : Nat) (h : XH) : qM_remembers_42 a0 h = xrun BM_remembers (xfind [(54, ([0, 1], wM_remembers_54 (qM_remembers_54 LF)))]) 57 42 (List.zip [0] [.ref a0]) [] h := rfl
theorem tM_remembers_42 : XTo cX9_remembers 2 RX9 0 0 0 42 [0] (wM_remembers_42 (qM_remembers_42)) := by
  refine XTo.run (B := BM_remembers) (cut := xfind [(54, ([0, 1], wM_remembers_54 (qM_remembers_54 LF)))]) kM_remembers (xcuts_ok (List.forall_mem_cons.mpr ⟨tM_remembers_54 LF, fun _ h => absurd h List.not_mem_nil⟩)) 57 (fun vs st h r hr => ?_)
  unfold wM_remembers_42 at hr
  split at hr
  · exact (eM_remembers_42 _ _).symm.trans hr
  · cases hr
set_option maxRecDepth 100000 in
theorem eM_remembers_13_b (k13 : Nat → Int32 → XH → XR) (a0 : Nat) (x1 : Int32) (h : XH) : qM_remembers_13_b k13 a0 x1 h = xrun BM_remembers (xfind [(13, ([0, 1], wM_remembers_13 (k13))), (42, ([0], wM_remembers_42 (qM_remembers_42)))]) 57 13 (List.zip [0, 1] [.ref a0, .int x1]) [] h := rfl
theorem tM_remembers_13_b {k13 : Nat → Int32 → XH → XR} (hk13 : XTo cX9_remembers 2 RX9 0 0 0 13 [0, 1] (wM_remembers_13 k13)) : XTo cX9_remembers 2 RX9 0 0 0 13 [0, 1] (wM_remembers_13 (qM_remembers_13_b k13)) := by
  refine XTo.run (B := BM_remembers) (cut := xfind [(13, ([0, 1], wM_remembers_13 (k13))), (42, ([0], wM_remembers_42 (qM_remembers_42)))]) kM_remembers (xcuts_ok (List.forall_mem_cons.mpr ⟨hk13, List.forall_mem_cons.mpr ⟨tM_remembers_42, fun _ h => absurd h List.not_mem_nil⟩⟩)) 57 (fun vs st h r hr => ?_)
  unfold wM_remembers_13 at hr
  split at hr
  · exact (eM_remembers_13_b k13 _ _ _).symm.trans hr
  · cases hr
theorem tM_remembers_13 : ∀ n : Nat, XTo cX9_remembers 2 RX9 0 0 0 13 [0, 1] (wM_remembers_13 (qM_remembers_13 n)) := by
  intro n
  induction n with
  | zero =>
    refine XTo.none fun vs st h => ?_
    unfold wM_remembers_13
    split <;> rfl
  | succ n ih => exact tM_remembers_13_b  ih
set_option maxRecDepth 100000 in
theorem eM_remembers (a0 : Nat) (h : XH) : qM_remembers a0 h = xrun BM_remembers (xfind [(13, ([0, 1], wM_remembers_13 (qM_remembers_13 LF))), (54, ([0, 1], wM_remembers_54 (qM_remembers_54 LF)))]) 57 0 (List.zip [0] [.ref a0]) [] h := rfl
theorem tM_remembers : XTo cX9_remembers 2 RX9 0 0 0 0 [0] (wM_remembers (qM_remembers)) := by
  refine XTo.run (B := BM_remembers) (cut := xfind [(13, ([0, 1], wM_remembers_13 (qM_remembers_13 LF))), (54, ([0, 1], wM_remembers_54 (qM_remembers_54 LF)))]) kM_remembers (xcuts_ok (List.forall_mem_cons.mpr ⟨tM_remembers_13 LF, List.forall_mem_cons.mpr ⟨tM_remembers_54 LF, fun _ h => absurd h List.not_mem_nil⟩⟩)) 57 (fun vs st h r hr => ?_)
  unfold wM_remembers at hr
  split at hr
  · exact (eM_remembers _ _).symm.trans hr
  · cases hr
def FM_remembers : List Value → XH → XR := fun vs h => match vs with
  | [.ref a0] => qM_remembers a0 h
  | _ => none
theorem SM_remembers : XS yX9_remembers cX9_remembers 2 none (xrm 0 0) FM_remembers := by
  refine XS.of (own := RX9) (by decide) rfl (rk := 0) rfl (tM_remembers) (fun vs h r hr => ?_)
  unfold FM_remembers at hr
  split at hr
  · exact ⟨rfl, Nat.le_of_ble_eq_true rfl, hr⟩
  · cases hr
-- LineDiagramModel.settles(I)I
def rM_settles : List (Nat × XRow) := [(0, (.aload_n 0, 1, 0, .null, [])),
  (1, (.iload_n 1, 2, 1, .null, [])),
  (2, (.invokevirtual 327, 5, 327, .null, [])),
  (5, (.istore_n 2, 6, 2, .null, [])),
  (6, (.iload_n 2, 7, 2, .null, [])),
  (7, (.ifCond .ge 9, 10, 16, .null, [])),
  (10, (.aload_n 0, 11, 0, .null, [])),
  (11, (.invokevirtual 330, 14, 330, .null, [])),
  (14, (.iload_n 2, 15, 2, .null, [])),
  (15, (.ireturn, 16, 0, .null, [])),
  (16, (.aload_n 0, 17, 0, .null, [])),
  (17, (.invokevirtual 333, 20, 333, .null, [])),
  (20, (.istore_n 3, 21, 3, .null, [])),
  (21, (.aload_n 0, 22, 0, .null, [])),
  (22, (.invokevirtual 337, 25, 337, .null, [])),
  (25, (.aload_n 0, 26, 0, .null, [])),
  (26, (.invokevirtual 340, 29, 340, .null, [])),
  (29, (.aload_n 0, 30, 0, .null, [])),
  (30, (.invokevirtual 337, 33, 337, .null, [])),
  (33, (.iload_n 3, 34, 3, .null, [])),
  (34, (.ireturn, 35, 0, .null, []))]
def mM_settles : List (Nat × XM) := [(327, (2, 1, some 9, FM_faultOf)), (330, (1, 0, some 9, FM_comesBack)), (333, (1, 1, some 9, FM_refits)), (337, (1, 0, some 9, FM_swaps)), (340, (1, 0, some 9, FM_remembers))]
abbrev BM_settles : XB := (rM_settles, XFT_M, mM_settles, 1, XST_M)
set_option maxRecDepth 100000 in
theorem kM_settles : XOK BM_settles cX9_settles 4 RX9 6 139 := xok_of (cps := []) (K := XKT_M) (by decide +kernel) XKT_M_ok (fun _ h => absurd h List.not_mem_nil) XFT_M_ok (List.forall_mem_cons.mpr ⟨⟨_, _, _, _, _, _, _, SM_faultOf, rfl, rfl, Nat.le_of_ble_eq_true rfl, Nat.le_of_ble_eq_true rfl, cdM_faultOf, lkM_327, imM_faultOf, slM_faultOf, inM_faultOf, pmM_faultOf⟩, List.forall_mem_cons.mpr ⟨⟨_, _, _, _, _, _, _, SM_comesBack, rfl, rfl, Nat.le_of_ble_eq_true rfl, Nat.le_of_ble_eq_true rfl, cdM_comesBack, lkM_330, imM_comesBack, slM_comesBack, inM_comesBack, pmM_comesBack⟩, List.forall_mem_cons.mpr ⟨⟨_, _, _, _, _, _, _, SM_refits, rfl, rfl, Nat.le_of_ble_eq_true rfl, Nat.le_of_ble_eq_true rfl, cdM_refits, lkM_333, imM_refits, slM_refits, inM_refits, pmM_refits⟩, List.forall_mem_cons.mpr ⟨⟨_, _, _, _, _, _, _, SM_swaps, rfl, rfl, Nat.le_of_ble_eq_true rfl, Nat.le_of_ble_eq_true rfl, cdM_swaps, lkM_337, imM_swaps, slM_swaps, inM_swaps, pmM_swaps⟩, List.forall_mem_cons.mpr ⟨⟨_, _, _, _, _, _, _, SM_remembers, rfl, rfl, Nat.le_of_ble_eq_true rfl, Nat.le_of_ble_eq_true rfl, cdM_remembers, lkM_340, imM_remembers, slM_remembers, inM_remembers, pmM_remembers⟩, fun _ h => absurd h List.not_mem_nil⟩⟩⟩⟩⟩) XST_M_ok
def wM_settles (f : Nat → Int32 → XH → XR) : List Value → List Value → XH → XR := fun vs st h => match vs, st with
  | [.ref a0, .int x1], [] => f a0 x1 h
  | _, _ => none
set_option maxRecDepth 100000 in
theorem eM_settles (a0 : Nat) (x1 : Int32) (h : XH) : qM_settles a0 x1 h = xrun BM_settles (xfind []) 24 0 (List.zip [0, 1] [.ref a0, .int x1]) [] h := rfl
theorem tM_settles : XTo cX9_settles 4 RX9 1 6 139 0 [0, 1] (wM_settles (qM_settles)) := by
  refine XTo.run (B := BM_settles) (cut := xfind []) kM_settles (xcuts_ok (fun _ h => absurd h List.not_mem_nil)) 24 (fun vs st h r hr => ?_)
  unfold wM_settles at hr
  split at hr
  · exact (eM_settles _ _ _).symm.trans hr
  · cases hr
def FM_settles : List Value → XH → XR := fun vs h => match vs with
  | [.ref a0, .int x1] => qM_settles a0 x1 h
  | _ => none
theorem SM_settles : XS yX9_settles cX9_settles 4 (some .int) (xrm 6 139) FM_settles := by
  refine XS.of (own := RX9) (by decide) rfl (rk := 1) rfl (tM_settles) (fun vs h r hr => ?_)
  unfold FM_settles at hr
  split at hr
  · exact ⟨rfl, Nat.le_of_ble_eq_true rfl, hr⟩
  · cases hr
-- LineDiagramModel.moveBend(IIII)I
def rM_moveBend : List (Nat × XRow) := [(0, (.aload_n 0, 1, 0, .null, [])),
  (1, (.iload_n 1, 2, 1, .null, [])),
  (2, (.iload_n 2, 3, 2, .null, [])),
  (3, (.iload_n 3, 4, 3, .null, [])),
  (4, (.iload 4, 6, 4, .null, [])),
  (6, (.invokevirtual 349, 9, 349, .null, [])),
  (9, (.istore 5, 11, 5, .null, [])),
  (11, (.iload 5, 13, 5, .null, [])),
  (13, (.ifCond .ge 6, 16, 19, .null, [])),
  (16, (.iload 5, 18, 5, .null, [])),
  (18, (.ireturn, 19, 0, .null, [])),
  (19, (.aload_n 0, 20, 0, .null, [])),
  (20, (.invokevirtual 352, 23, 352, .null, [])),
  (23, (.aload_n 0, 24, 0, .null, [])),
  (24, (.iload_n 1, 25, 1, .null, [])),
  (25, (.iload_n 2, 26, 2, .null, [])),
  (26, (.iload_n 3, 27, 3, .null, [])),
  (27, (.iload 4, 29, 4, .null, [])),
  (29, (.invokevirtual 355, 32, 355, .null, [])),
  (32, (.aload_n 0, 33, 0, .null, [])),
  (33, (.iload_n 1, 34, 1, .null, [])),
  (34, (.invokevirtual 359, 37, 359, .null, [])),
  (37, (.ireturn, 38, 0, .null, []))]
def mM_moveBend : List (Nat × XM) := [(349, (5, 1, some 9, FM_moveFault)), (352, (1, 0, some 9, FM_thinks)), (355, (5, 0, some 9, FM_putsPoint)), (359, (2, 1, some 9, FM_settles))]
abbrev BM_moveBend : XB := (rM_moveBend, XFT_M, mM_moveBend, 1, XST_M)
set_option maxRecDepth 100000 in
theorem kM_moveBend : XOK BM_moveBend cX9_moveBend 6 RX9 7 162 := xok_of (cps := []) (K := XKT_M) (by decide +kernel) XKT_M_ok (fun _ h => absurd h List.not_mem_nil) XFT_M_ok (List.forall_mem_cons.mpr ⟨⟨_, _, _, _, _, _, _, SM_moveFault, rfl, rfl, Nat.le_of_ble_eq_true rfl, Nat.le_of_ble_eq_true rfl, cdM_moveFault, lkM_349, imM_moveFault, slM_moveFault, inM_moveFault, pmM_moveFault⟩, List.forall_mem_cons.mpr ⟨⟨_, _, _, _, _, _, _, SM_thinks, rfl, rfl, Nat.le_of_ble_eq_true rfl, Nat.le_of_ble_eq_true rfl, cdM_thinks, lkM_352, imM_thinks, slM_thinks, inM_thinks, pmM_thinks⟩, List.forall_mem_cons.mpr ⟨⟨_, _, _, _, _, _, _, SM_putsPoint, rfl, rfl, Nat.le_of_ble_eq_true rfl, Nat.le_of_ble_eq_true rfl, cdM_putsPoint, lkM_355, imM_putsPoint, slM_putsPoint, inM_putsPoint, pmM_putsPoint⟩, List.forall_mem_cons.mpr ⟨⟨_, _, _, _, _, _, _, SM_settles, rfl, rfl, Nat.le_of_ble_eq_true rfl, Nat.le_of_ble_eq_true rfl, cdM_settles, lkM_359, imM_settles, slM_settles, inM_settles, pmM_settles⟩, fun _ h => absurd h List.not_mem_nil⟩⟩⟩⟩) XST_M_ok
def wM_moveBend (f : Nat → Int32 → Int32 → Int32 → Int32 → XH → XR) : List Value → List Value → XH → XR := fun vs st h => match vs, st with
  | [.ref a0, .int x1, .int x2, .int x3, .int x4], [] => f a0 x1 x2 x3 x4 h
  | _, _ => none
set_option maxRecDepth 100000 in
theorem eM_moveBend (a0 : Nat) (x1 : Int32) (x2 : Int32) (x3 : Int32) (x4 : Int32) (h : XH) : qM_moveBend a0 x1 x2 x3 x4 h = xrun BM_moveBend (xfind []) 26 0 (List.zip [0, 1, 2, 3, 4] [.ref a0, .int x1, .int x2, .int x3, .int x4]) [] h := rfl
theorem tM_moveBend : XTo cX9_moveBend 6 RX9 1 7 162 0 [0, 1, 2, 3, 4] (wM_moveBend (qM_moveBend)) := by
  refine XTo.run (B := BM_moveBend) (cut := xfind []) kM_moveBend (xcuts_ok (fun _ h => absurd h List.not_mem_nil)) 26 (fun vs st h r hr => ?_)
  unfold wM_moveBend at hr
  split at hr
  · exact (eM_moveBend _ _ _ _ _ _).symm.trans hr
  · cases hr
def FM_moveBend : List Value → XH → XR := fun vs h => match vs with
  | [.ref a0, .int x1, .int x2, .int x3, .int x4] => qM_moveBend a0 x1 x2 x3 x4 h
  | _ => none
theorem SM_moveBend : XS yX9_moveBend cX9_moveBend 6 (some .int) (xrm 7 162) FM_moveBend := by
  refine XS.of (own := RX9) (by decide) rfl (rk := 1) rfl (tM_moveBend) (fun vs h r hr => ?_)
  unfold FM_moveBend at hr
  split at hr
  · exact ⟨rfl, Nat.le_of_ble_eq_true rfl, hr⟩
  · cases hr
