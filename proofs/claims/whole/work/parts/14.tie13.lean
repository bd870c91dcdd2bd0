-- LineDiagramModel.isPosition(I)Z
def rM_isPosition : List (Nat × XRow) := [(0, (.iload_n 0, 1, 0, .null, [])),
  (1, (.i2l, 2, 0, .null, [])),
  (2, (.lconst 0, 3, 0, .long (0 : Int64), [])),
  (3, (.ldc2_w 372, 6, 372, .long (7 : Int64), [])),
  (6, (.invokestatic 96, 9, 96, .null, [])),
  (9, (.ireturn, 10, 0, .null, []))]
def mM_isPosition : List (Nat × XM) := [(96, (3, 1, none, FM_in))]
abbrev BM_isPosition : XB := (rM_isPosition, XFT_M, mM_isPosition, 6, XST_M)
set_option maxRecDepth 100000 in
theorem kM_isPosition : XOK BM_isPosition cX9_isPosition 1 RX9 1 25 := xok_of (cps := []) (K := XKT_M) (by decide +kernel) XKT_M_ok (fun _ h => absurd h List.not_mem_nil) XFT_M_ok (List.forall_mem_cons.mpr ⟨⟨_, _, _, _, _, _, SM_in, Nat.le_of_ble_eq_true rfl, Nat.le_of_ble_eq_true rfl, cdM_in, lkM_96, imM_in, inM_in, pmM_in⟩, fun _ h => absurd h List.not_mem_nil⟩) XST_M_ok
def wM_isPosition (f : Int32 → XH → XR) : List Value → List Value → XH → XR := fun vs st h => match vs, st with
  | [.int x0], [] => f x0 h
  | _, _ => none
set_option maxRecDepth 100000 in
theorem eM_isPosition (x0 : Int32) (h : XH) : qM_isPosition x0 h = xrun BM_isPosition (xfind []) 9 0 (List.zip [0] [.int x0]) [] h := rfl
theorem tM_isPosition : XTo cX9_isPosition 1 RX9 6 1 25 0 [0] (wM_isPosition (qM_isPosition)) := by
  refine XTo.run (B := BM_isPosition) (cut := xfind []) kM_isPosition (xcuts_ok (fun _ h => absurd h List.not_mem_nil)) 9 (fun vs st h r hr => ?_)
  unfold wM_isPosition at hr
  split at hr
  · exact (eM_isPosition _ _).symm.trans hr
  · cases hr
def FM_isPosition : List Value → XH → XR := fun vs h => match vs with
  | [.int x0] => qM_isPosition x0 h
  | _ => none
theorem SM_isPosition : XS yX9_isPosition cX9_isPosition 1 (some .boolean) (xrm 1 25) FM_isPosition := by
  refine XS.of (own := RX9) (by decide) rfl (rk := 6) rfl (tM_isPosition) (fun vs h r hr => ?_)
  unfold FM_isPosition at hr
  split at hr
  · exact ⟨rfl, Nat.le_of_ble_eq_true rfl, hr⟩
  · cases hr
-- LineDiagramModel.lays()V
def rM_lays : List (Nat × XRow) := [(0, (.aload_n 0, 1, 0, .null, [])),
  (1, (.invokevirtual 190, 4, 190, .null, [])),
  (4, (.aload_n 0, 5, 0, .null, [])),
  (5, (.invokevirtual 193, 8, 193, .null, [])),
  (8, (.iconst 0, 9, 0, .int (0 : Int32), [])),
  (9, (.istore_n 1, 10, 1, .null, [])),
  (10, (.iload_n 1, 11, 1, .null, [])),
  (11, (.sipush 1600, 14, 0, .int (1600 : Int32), [])),
  (14, (.if_icmp .ge 28, 17, 42, .null, [])),
  (17, (.aload_n 0, 18, 0, .null, [])),
  (18, (.iload_n 1, 19, 1, .null, [])),
  (19, (.invokevirtual 187, 22, 187, .null, [])),
  (22, (.ifCond .lt 14, 25, 36, .null, [])),
  (25, (.aload_n 0, 26, 0, .null, [])),
  (26, (.iload_n 1, 27, 1, .null, [])),
  (27, (.aload_n 0, 28, 0, .null, [])),
  (28, (.iload_n 1, 29, 1, .null, [])),
  (29, (.invokevirtual 187, 32, 187, .null, [])),
  (32, (.iload_n 1, 33, 1, .null, [])),
  (33, (.invokevirtual 184, 36, 184, .null, [])),
  (36, (.iinc 1 1, 39, 1, .int (1 : Int32), [])),
  (39, (.goto (-29), 42, 10, .null, [])),
  (42, (.return_, 43, 0, .null, []))]
def mM_lays : List (Nat × XM) := [(184, (4, 0, some 9, FM_laysLabel)), (187, (2, 1, some 9, FM_labelOf)), (190, (1, 0, some 9, FM_laysLines)), (193, (1, 0, some 9, FM_clearsLabels))]
abbrev BM_lays : XB := (rM_lays, XFT_M, mM_lays, 0, XST_M)
set_option maxRecDepth 100000 in
theorem kM_lays : XOK BM_lays cX9_lays 2 RX9 5 117 := xok_of (cps := []) (K := XKT_M) (by decide +kernel) XKT_M_ok (fun _ h => absurd h List.not_mem_nil) XFT_M_ok (List.forall_mem_cons.mpr ⟨⟨_, _, _, _, _, _, _, SM_laysLabel, rfl, rfl, Nat.le_of_ble_eq_true rfl, Nat.le_of_ble_eq_true rfl, cdM_laysLabel, lkM_184, imM_laysLabel, slM_laysLabel, inM_laysLabel, pmM_laysLabel⟩, List.forall_mem_cons.mpr ⟨⟨_, _, _, _, _, _, _, SM_labelOf, rfl, rfl, Nat.le_of_ble_eq_true rfl, Nat.le_of_ble_eq_true rfl, cdM_labelOf, lkM_187, imM_labelOf, slM_labelOf, inM_labelOf, pmM_labelOf⟩, List.forall_mem_cons.mpr ⟨⟨_, _, _, _, _, _, _, SM_laysLines, rfl, rfl, Nat.le_of_ble_eq_true rfl, Nat.le_of_ble_eq_true rfl, cdM_laysLines, lkM_190, imM_laysLines, slM_laysLines, inM_laysLines, pmM_laysLines⟩, List.forall_mem_cons.mpr ⟨⟨_, _, _, _, _, _, _, SM_clearsLabels, rfl, rfl, Nat.le_of_ble_eq_true rfl, Nat.le_of_ble_eq_true rfl, cdM_clearsLabels, lkM_193, imM_clearsLabels, slM_clearsLabels, inM_clearsLabels, pmM_clearsLabels⟩, fun _ h => absurd h List.not_mem_nil⟩⟩⟩⟩) XST_M_ok
def wM_lays_10 (f : Nat → Int32 → XH → XR) : List Value → List Value → XH → XR := fun vs st h => match vs, st with
  | [.ref a0, .int x1], [] => f a0 x1 h
  | _, _ => none
def wM_lays (f : Nat → XH → XR) : List Value → List Value → XH → XR := fun vs st h => match vs, st with
  | [.ref a0], [] => f a0 h
  | _, _ => none
set_option maxRecDepth 100000 in
theorem eM_lays_10_b (k10 : Nat → Int32 → XH → XR) (a0 : Nat) (x1 : Int32) (h : XH) : qM_lays_10_b k10 a0 x1 h = xrun BM_lays (xfind [(10, ([0, 1], wM_lays_10 (k10)))]) 26 10 (List.zip [0, 1] [.ref a0, .int x1]) [] h := rfl
theorem tM_lays_10_b {k10 : Nat → Int32 → XH → XR} (hk10 : XTo cX9_lays 2 RX9 0 5 117 10 [0, 1] (wM_lays_10 k10)) : XTo cX9_lays 2 RX9 0 5 117 10 [0, 1] (wM_lays_10 (qM_lays_10_b k10)) := by
  refine XTo.run (B := BM_lays) (cut := xfind [(10, ([0, 1], wM_lays_10 (k10)))]) kM_lays (xcuts_ok (List.forall_mem_cons.mpr ⟨hk10, fun _ h => absurd h List.not_mem_nil⟩)) 26 (fun vs st h r hr => ?_)
  unfold wM_lays_10 at hr
  split at hr
  · exact (eM_lays_10_b k10 _ _ _).symm.trans hr
  · cases hr
theorem tM_lays_10 : ∀ n : Nat, XTo cX9_lays 2 RX9 0 5 117 10 [0, 1] (wM_lays_10 (qM_lays_10 n)) := by
  intro n
  induction n with
  | zero =>
    refine XTo.none fun vs st h => ?_
    unfold wM_lays_10
    split <;> rfl
  | succ n ih => exact tM_lays_10_b  ih
set_option maxRecDepth 100000 in
theorem eM_lays (a0 : Nat) (h : XH) : qM_lays a0 h = xrun BM_lays (xfind [(10, ([0, 1], wM_lays_10 (qM_lays_10 LF)))]) 26 0 (List.zip [0] [.ref a0]) [] h := rfl
theorem tM_lays : XTo cX9_lays 2 RX9 0 5 117 0 [0] (wM_lays (qM_lays)) := by
  refine XTo.run (B := BM_lays) (cut := xfind [(10, ([0, 1], wM_lays_10 (qM_lays_10 LF)))]) kM_lays (xcuts_ok (List.forall_mem_cons.mpr ⟨tM_lays_10 LF, fun _ h => absurd h List.not_mem_nil⟩)) 26 (fun vs st h r hr => ?_)
  unfold wM_lays at hr
  split at hr
  · exact (eM_lays _ _).symm.trans hr
  · cases hr
def FM_lays : List Value → XH → XR := fun vs h => match vs with
  | [.ref a0] => qM_lays a0 h
  | _ => none
theorem SM_lays : XS yX9_lays cX9_lays 2 none (xrm 5 117) FM_lays := by
  refine XS.of (own := RX9) (by decide) rfl (rk := 0) rfl (tM_lays) (fun vs h r hr => ?_)
  unfold FM_lays at hr
  split at hr
  · exact ⟨rfl, Nat.le_of_ble_eq_true rfl, hr⟩
  · cases hr
-- LineDiagramModel.label(III)I
def rM_label : List (Nat × XRow) := [(0, (.aload_n 0, 1, 0, .null, [])),
  (1, (.iload_n 1, 2, 1, .null, [])),
  (2, (.iload_n 2, 3, 2, .null, [])),
  (3, (.invokevirtual 374, 6, 374, .null, [])),
  (6, (.ifCond .eq 10, 9, 16, .null, [])),
  (9, (.iload_n 3, 10, 3, .null, [])),
  (10, (.invokestatic 377, 13, 377, .null, [])),
  (13, (.ifCond .ne 5, 16, 18, .null, [])),
  (16, (.iconst (-1), 17, 0, .int (-1 : Int32), [])),
  (17, (.ireturn, 18, 0, .null, [])),
  (18, (.aload_n 0, 19, 0, .null, [])),
  (19, (.invokevirtual 380, 22, 380, .null, [])),
  (22, (.aload_n 0, 23, 0, .null, [])),
  (23, (.iload_n 1, 24, 1, .null, [])),
  (24, (.iload_n 2, 25, 2, .null, [])),
  (25, (.invokevirtual 151, 28, 151, .null, [])),
  (28, (.istore 4, 30, 4, .null, [])),
  (30, (.aload_n 0, 31, 0, .null, [])),
  (31, (.iload 4, 33, 4, .null, [])),
  (33, (.invokevirtual 187, 36, 187, .null, [])),
  (36, (.iload_n 3, 37, 3, .null, [])),
  (37, (.if_icmp .ne 6, 40, 43, .null, [])),
  (40, (.bipush (-2), 42, 0, .int (-2 : Int32), [])),
  (42, (.ireturn, 43, 0, .null, [])),
  (43, (.aload_n 0, 44, 0, .null, [])),
  (44, (.iload 4, 46, 4, .null, [])),
  (46, (.iload_n 3, 47, 3, .null, [])),
  (47, (.invokevirtual 199, 50, 199, .null, [])),
  (50, (.istore 5, 52, 5, .null, [])),
  (52, (.iload 5, 54, 5, .null, [])),
  (54, (.ifCond .ge 6, 57, 60, .null, [])),
  (57, (.iload 5, 59, 5, .null, [])),
  (59, (.ireturn, 60, 0, .null, [])),
  (60, (.aload_n 0, 61, 0, .null, [])),
  (61, (.invokevirtual 340, 64, 340, .null, [])),
  (64, (.aload_n 0, 65, 0, .null, [])),
  (65, (.getfield 21, 68, 21, .null, [])),
  (68, (.sipush 184, 71, 0, .int (184 : Int32), [])),
  (71, (.iload 4, 73, 4, .null, [])),
  (73, (.iadd, 74, 0, .null, [])),
  (74, (.iload_n 3, 75, 3, .null, [])),
  (75, (.iastore, 76, 0, .null, [])),
  (76, (.aload_n 0, 77, 0, .null, [])),
  (77, (.getfield 55, 80, 55, .null, [])),
  (80, (.iload 4, 82, 4, .null, [])),
  (82, (.iaload, 83, 0, .null, [])),
  (83, (.ireturn, 84, 0, .null, []))]
def mM_label : List (Nat × XM) := [(151, (3, 1, some 9, FM_cellOf)), (187, (2, 1, some 9, FM_labelOf)), (199, (3, 1, some 9, FM_whyNot)), (340, (1, 0, some 9, FM_remembers)), (374, (3, 1, some 9, FM_isStation)), (377, (1, 1, none, FM_isPosition)), (380, (1, 0, some 9, FM_lays))]
abbrev BM_label : XB := (rM_label, XFT_M, mM_label, 1, XST_M)
set_option maxRecDepth 100000 in
theorem kM_label : XOK BM_label cX9_label 6 RX9 6 138 := xok_of (cps := []) (K := XKT_M) (by decide +kernel) XKT_M_ok (fun _ h => absurd h List.not_mem_nil) XFT_M_ok (List.forall_mem_cons.mpr ⟨⟨_, _, _, _, _, _, _, SM_cellOf, rfl, rfl, Nat.le_of_ble_eq_true rfl, Nat.le_of_ble_eq_true rfl, cdM_cellOf, lkM_151, imM_cellOf, slM_cellOf, inM_cellOf, pmM_cellOf⟩, List.forall_mem_cons.mpr ⟨⟨_, _, _, _, _, _, _, SM_labelOf, rfl, rfl, Nat.le_of_ble_eq_true rfl, Nat.le_of_ble_eq_true rfl, cdM_labelOf, lkM_187, imM_labelOf, slM_labelOf, inM_labelOf, pmM_labelOf⟩, List.forall_mem_cons.mpr ⟨⟨_, _, _, _, _, _, _, SM_whyNot, rfl, rfl, Nat.le_of_ble_eq_true rfl, Nat.le_of_ble_eq_true rfl, cdM_whyNot, lkM_199, imM_whyNot, slM_whyNot, inM_whyNot, pmM_whyNot⟩, List.forall_mem_cons.mpr ⟨⟨_, _, _, _, _, _, _, SM_remembers, rfl, rfl, Nat.le_of_ble_eq_true rfl, Nat.le_of_ble_eq_true rfl, cdM_remembers, lkM_340, imM_remembers, slM_remembers, inM_remembers, pmM_remembers⟩, List.forall_mem_cons.mpr ⟨⟨_, _, _, _, _, _, _, SM_isStation, rfl, rfl, Nat.le_of_ble_eq_true rfl, Nat.le_of_ble_eq_true rfl, cdM_isStation, lkM_374, imM_isStation, slM_isStation, inM_isStation, pmM_isStation⟩, List.forall_mem_cons.mpr ⟨⟨_, _, _, _, _, _, SM_isPosition, Nat.le_of_ble_eq_true rfl, Nat.le_of_ble_eq_true rfl, cdM_isPosition, lkM_377, imM_isPosition, inM_isPosition, pmM_isPosition⟩, List.forall_mem_cons.mpr ⟨⟨_, _, _, _, _, _, _, SM_lays, rfl, rfl, Nat.le_of_ble_eq_true rfl, Nat.le_of_ble_eq_true rfl, cdM_lays, lkM_380, imM_lays, slM_lays, inM_lays, pmM_lays⟩, fun _ h => absurd h List.not_mem_nil⟩⟩⟩⟩⟩⟩⟩) XST_M_ok
def wM_label (f : Nat → Int32 → Int32 → Int32 → XH → XR) : List Value → List Value → XH → XR := fun vs st h => match vs, st with
  | [.ref a0, .int x1, .int x2, .int x3], [] => f a0 x1 x2 x3 h
  | _, _ => none
set_option maxRecDepth 100000 in
theorem eM_label (a0 : Nat) (x1 : Int32) (x2 : Int32) (x3 : Int32) (h : XH) : qM_label a0 x1 x2 x3 h = xrun BM_label (xfind []) 50 0 (List.zip [0, 1, 2, 3] [.ref a0, .int x1, .int x2, .int x3]) [] h := rfl
theorem tM_label : XTo cX9_label 6 RX9 1 6 138 0 [0, 1, 2, 3] (wM_label (qM_label)) := by
  refine XTo.run (B := BM_label) (cut := xfind []) kM_label (xcuts_ok (fun _ h => absurd h List.not_mem_nil)) 50 (fun vs st h r hr => ?_)
  unfold wM_label at hr
  split at hr
  · exact (eM_label _ _ _ _ _).symm.trans hr
  · cases hr
def FM_label : List Value → XH → XR := fun vs h => match vs with
  | [.ref a0, .int x1, .int x2, .int x3] => qM_label a0 x1 x2 x3 h
  | _ => none
theorem SM_label : XS yX9_label cX9_label 6 (some .int) (xrm 6 138) FM_label := by
  refine XS.of (own := RX9) (by decide) rfl (rk := 1) rfl (tM_label) (fun vs h r hr => ?_)
  unfold FM_label at hr
  split at hr
  · exact ⟨rfl, Nat.le_of_ble_eq_true rfl, hr⟩
  · cases hr
-- LineDiagram.unlabel(II)I
def rD_unlabel : List (Nat × XRow) := [(0, (.aload_n 0, 1, 0, .null, [])),
  (1, (.iload_n 1, 2, 1, .null, [])),
  (2, (.iload_n 2, 3, 2, .null, [])),
  (3, (.invokevirtual 151, 6, 151, .null, [])),
  (6, (.ifCond .ne 5, 9, 11, .null, [])),
  (9, (.iconst (-1), 10, 0, .int (-1 : Int32), [])),
  (10, (.ireturn, 11, 0, .null, [])),
  (11, (.aload_n 0, 12, 0, .null, [])),
  (12, (.getfield 54, 15, 54, .null, [])),
  (15, (.iload_n 1, 16, 1, .null, [])),
  (16, (.iload_n 2, 17, 2, .null, [])),
  (17, (.invokevirtual 157, 20, 157, .null, [])),
  (20, (.istore_n 3, 21, 3, .null, [])),
  (21, (.aload_n 0, 22, 0, .null, [])),
  (22, (.getfield 29, 25, 29, .null, [])),
  (25, (.getfield 161, 28, 161, .null, [])),
  (28, (.iload_n 3, 29, 3, .null, [])),
  (29, (.invokevirtual 165, 32, 165, .null, [])),
  (32, (.istore 4, 34, 4, .null, [])),
  (34, (.iload 4, 36, 4, .null, [])),
  (36, (.ifCond .ge 6, 39, 42, .null, [])),
  (39, (.bipush (-2), 41, 0, .int (-2 : Int32), [])),
  (41, (.ireturn, 42, 0, .null, [])),
  (42, (.aload_n 0, 43, 0, .null, [])),
  (43, (.getfield 47, 46, 47, .null, [])),
  (46, (.aload_n 0, 47, 0, .null, [])),
  (47, (.getfield 29, 50, 29, .null, [])),
  (50, (.invokevirtual 173, 53, 173, .null, [])),
  (53, (.aload_n 0, 54, 0, .null, [])),
  (54, (.iload_n 3, 55, 3, .null, [])),
  (55, (.invokevirtual 183, 58, 183, .null, [])),
  (58, (.iload 4, 60, 4, .null, [])),
  (60, (.ireturn, 61, 0, .null, []))]
def mD_unlabel : List (Nat × XM) := [(151, (3, 1, some 8, FD_isStation)), (157, (3, 1, some 0, FB_stationCell)), (165, (2, 1, some 2, FLb_positionOf)), (173, (2, 0, some 1, FH_push)), (183, (2, 0, some 8, FD_takeLabel))]
abbrev BD_unlabel : XB := (rD_unlabel, XFT_D, mD_unlabel, 1, XST_D)
set_option maxRecDepth 100000 in
theorem kD_unlabel : XOK BD_unlabel cX8_unlabel 5 RX8 4 128 := xok_of (cps := []) (K := XKT_D) (by decide +kernel) XKT_D_ok (fun _ h => absurd h List.not_mem_nil) XFT_D_ok (List.forall_mem_cons.mpr ⟨⟨_, _, _, _, _, _, _, SD_isStation, rfl, rfl, Nat.le_of_ble_eq_true rfl, Nat.le_of_ble_eq_true rfl, cdD_isStation, lkD_151, imD_isStation, slD_isStation, inD_isStation, pmD_isStation⟩, List.forall_mem_cons.mpr ⟨⟨_, _, _, _, _, _, _, SB_stationCell, rfl, rfl, Nat.le_of_ble_eq_true rfl, Nat.le_of_ble_eq_true rfl, cdB_stationCell, lkD_157, imB_stationCell, slB_stationCell, inB_stationCell, pmB_stationCell⟩, List.forall_mem_cons.mpr ⟨⟨_, _, _, _, _, _, _, SLb_positionOf, rfl, rfl, Nat.le_of_ble_eq_true rfl, Nat.le_of_ble_eq_true rfl, cdLb_positionOf, lkD_165, imLb_positionOf, slLb_positionOf, inLb_positionOf, pmLb_positionOf⟩, List.forall_mem_cons.mpr ⟨⟨_, _, _, _, _, _, _, SH_push, rfl, rfl, Nat.le_of_ble_eq_true rfl, Nat.le_of_ble_eq_true rfl, cdH_push, lkD_173, imH_push, slH_push, inH_push, pmH_push⟩, List.forall_mem_cons.mpr ⟨⟨_, _, _, _, _, _, _, SD_takeLabel, rfl, rfl, Nat.le_of_ble_eq_true rfl, Nat.le_of_ble_eq_true rfl, cdD_takeLabel, lkD_183, imD_takeLabel, slD_takeLabel, inD_takeLabel, pmD_takeLabel⟩, fun _ h => absurd h List.not_mem_nil⟩⟩⟩⟩⟩) XST_D_ok
def wD_unlabel (f : Nat → Int32 → Int32 → XH → XR) : List Value → List Value → XH → XR := fun vs st h => match vs, st with
  | [.ref a0, .int x1, .int x2], [] => f a0 x1 x2 h
  | _, _ => none
set_option maxRecDepth 100000 in
theorem eD_unlabel (a0 : Nat) (x1 : Int32) (x2 : Int32) (h : XH) : qD_unlabel a0 x1 x2 h = xrun BD_unlabel (xfind []) 36 0 (List.zip [0, 1, 2] [.ref a0, .int x1, .int x2]) [] h := rfl
theorem tD_unlabel : XTo cX8_unlabel 5 RX8 1 4 128 0 [0, 1, 2] (wD_unlabel (qD_unlabel)) := by
  refine XTo.run (B := BD_unlabel) (cut := xfind []) kD_unlabel (xcuts_ok (fun _ h => absurd h List.not_mem_nil)) 36 (fun vs st h r hr => ?_)
  unfold wD_unlabel at hr
  split at hr
  · exact (eD_unlabel _ _ _ _).symm.trans hr
  · cases hr
def FD_unlabel : List Value → XH → XR := fun vs h => match vs with
  | [.ref a0, .int x1, .int x2] => qD_unlabel a0 x1 x2 h
  | _ => none
theorem SD_unlabel : XS yX8_unlabel cX8_unlabel 5 (some .int) (xrm 4 128) FD_unlabel := by
  refine XS.of (own := RX8) (by decide) rfl (rk := 1) rfl (tD_unlabel) (fun vs h r hr => ?_)
  unfold FD_unlabel at hr
  split at hr
  · exact ⟨rfl, Nat.le_of_ble_eq_true rfl, hr⟩
  · cases hr
-- LineDiagramModel.unlabel(II)I
def rM_unlabel : List (Nat × XRow) := [(0, (.aload_n 0, 1, 0, .null, [])),
  (1, (.iload_n 1, 2, 1, .null, [])),
  (2, (.iload_n 2, 3, 2, .null, [])),
  (3, (.invokevirtual 374, 6, 374, .null, [])),
  (6, (.ifCond .ne 5, 9, 11, .null, [])),
  (9, (.iconst (-1), 10, 0, .int (-1 : Int32), [])),
  (10, (.ireturn, 11, 0, .null, [])),
  (11, (.aload_n 0, 12, 0, .null, [])),
  (12, (.invokevirtual 380, 15, 380, .null, [])),
  (15, (.aload_n 0, 16, 0, .null, [])),
  (16, (.iload_n 1, 17, 1, .null, [])),
  (17, (.iload_n 2, 18, 2, .null, [])),
  (18, (.invokevirtual 151, 21, 151, .null, [])),
  (21, (.istore_n 3, 22, 3, .null, [])),
  (22, (.aload_n 0, 23, 0, .null, [])),
  (23, (.iload_n 3, 24, 3, .null, [])),
  (24, (.invokevirtual 187, 27, 187, .null, [])),
  (27, (.istore 4, 29, 4, .null, [])),
  (29, (.iload 4, 31, 4, .null, [])),
  (31, (.ifCond .lt 19, 34, 50, .null, [])),
  (34, (.aload_n 0, 35, 0, .null, [])),
  (35, (.invokevirtual 340, 38, 340, .null, [])),
  (38, (.aload_n 0, 39, 0, .null, [])),
  (39, (.getfield 21, 42, 21, .null, [])),
  (42, (.sipush 184, 45, 0, .int (184 : Int32), [])),
  (45, (.iload_n 3, 46, 3, .null, [])),
  (46, (.iadd, 47, 0, .null, [])),
  (47, (.bipush (-2), 49, 0, .int (-2 : Int32), [])),
  (49, (.iastore, 50, 0, .null, [])),
  (50, (.iload 4, 52, 4, .null, [])),
  (52, (.ireturn, 53, 0, .null, []))]
def mM_unlabel : List (Nat × XM) := [(151, (3, 1, some 9, FM_cellOf)), (187, (2, 1, some 9, FM_labelOf)), (340, (1, 0, some 9, FM_remembers)), (374, (3, 1, some 9, FM_isStation)), (380, (1, 0, some 9, FM_lays))]
abbrev BM_unlabel : XB := (rM_unlabel, XFT_M, mM_unlabel, 1, XST_M)
set_option maxRecDepth 100000 in
theorem kM_unlabel : XOK BM_unlabel cX9_unlabel 5 RX9 6 138 := xok_of (cps := []) (K := XKT_M) (by decide +kernel) XKT_M_ok (fun _ h => absurd h List.not_mem_nil) XFT_M_ok (List.forall_mem_cons.mpr ⟨⟨_, _, _, _, _, _, _, SM_cellOf, rfl, rfl, Nat.le_of_ble_eq_true rfl, Nat.le_of_ble_eq_true rfl, cdM_cellOf, lkM_151, imM_cellOf, slM_cellOf, inM_cellOf, pmM_cellOf⟩, List.forall_mem_cons.mpr ⟨⟨_, _, _, _, _, _, _, SM_labelOf, rfl, rfl, Nat.le_of_ble_eq_true rfl, Nat.le_of_ble_eq_true rfl, cdM_labelOf, lkM_187, imM_labelOf, slM_labelOf, inM_labelOf, pmM_labelOf⟩, List.forall_mem_cons.mpr ⟨⟨_, _, _, _, _, _, _, SM_remembers, rfl, rfl, Nat.le_of_ble_eq_true rfl, Nat.le_of_ble_eq_true rfl, cdM_remembers, lkM_340, imM_remembers, slM_remembers, inM_remembers, pmM_remembers⟩, List.forall_mem_cons.mpr ⟨⟨_, _, _, _, _, _, _, SM_isStation, rfl, rfl, Nat.le_of_ble_eq_true rfl, Nat.le_of_ble_eq_true rfl, cdM_isStation, lkM_374, imM_isStation, slM_isStation, inM_isStation, pmM_isStation⟩, List.forall_mem_cons.mpr ⟨⟨_, _, _, _, _, _, _, SM_lays, rfl, rfl, Nat.le_of_ble_eq_true rfl, Nat.le_of_ble_eq_true rfl, cdM_lays, lkM_380, imM_lays, slM_lays, inM_lays, pmM_lays⟩, fun _ h => absurd h List.not_mem_nil⟩⟩⟩⟩⟩) XST_M_ok
def wM_unlabel (f : Nat → Int32 → Int32 → XH → XR) : List Value → List Value → XH → XR := fun vs st h => match vs, st with
  | [.ref a0, .int x1, .int x2], [] => f a0 x1 x2 h
  | _, _ => none
set_option maxRecDepth 100000 in
theorem eM_unlabel (a0 : Nat) (x1 : Int32) (x2 : Int32) (h : XH) : qM_unlabel a0 x1 x2 h = xrun BM_unlabel (xfind []) 34 0 (List.zip [0, 1, 2] [.ref a0, .int x1, .int x2]) [] h := rfl
theorem tM_unlabel : XTo cX9_unlabel 5 RX9 1 6 138 0 [0, 1, 2] (wM_unlabel (qM_unlabel)) := by
  refine XTo.run (B := BM_unlabel) (cut := xfind []) kM_unlabel (xcuts_ok (fun _ h => absurd h List.not_mem_nil)) 34 (fun vs st h r hr => ?_)
  unfold wM_unlabel at hr
  split at hr
  · exact (eM_unlabel _ _ _ _).symm.trans hr
  · cases hr
def FM_unlabel : List Value → XH → XR := fun vs h => match vs with
  | [.ref a0, .int x1, .int x2] => qM_unlabel a0 x1 x2 h
  | _ => none
theorem SM_unlabel : XS yX9_unlabel cX9_unlabel 5 (some .int) (xrm 6 138) FM_unlabel := by
  refine XS.of (own := RX9) (by decide) rfl (rk := 1) rfl (tM_unlabel) (fun vs h r hr => ?_)
  unfold FM_unlabel at hr
  split at hr
  · exact ⟨rfl, Nat.le_of_ble_eq_true rfl, hr⟩
  · cases hr
-- LineDiagram$Board.firstFit(I)I
def rB_firstFit : List (Nat × XRow) := [(0, (.iconst 0, 1, 0, .int (0 : Int32), [])),
  (1, (.istore_n 2, 2, 2, .null, [])),
  (2, (.iload_n 2, 3, 2, .null, [])),
  (3, (.bipush 8, 5, 0, .int (8 : Int32), [])),
  (5, (.if_icmp .ge 20, 8, 25, .null, [])),
  (8, (.aload_n 0, 9, 0, .null, [])),
  (9, (.iload_n 1, 10, 1, .null, [])),
  (10, (.iload_n 2, 11, 2, .null, [])),
  (11, (.invokevirtual 168, 14, 168, .null, [])),
  (14, (.ifCond .ne 5, 17, 19, .null, [])),
  (17, (.iload_n 2, 18, 2, .null, [])),
  (18, (.ireturn, 19, 0, .null, [])),
  (19, (.iinc 2 1, 22, 2, .int (1 : Int32), [])),
  (22, (.goto (-20), 25, 2, .null, [])),
  (25, (.bipush (-2), 27, 0, .int (-2 : Int32), [])),
  (27, (.ireturn, 28, 0, .null, []))]
def mB_firstFit : List (Nat × XM) := [(168, (3, 1, some 0, FB_reason))]
abbrev BB_firstFit : XB := (rB_firstFit, XFT_B, mB_firstFit, 1, XST_B)
set_option maxRecDepth 100000 in
theorem kB_firstFit : XOK BB_firstFit cX0_firstFit 3 RX0 3 71 := xok_of (cps := []) (K := XKT_B) (by decide +kernel) XKT_B_ok (fun _ h => absurd h List.not_mem_nil) XFT_B_ok (List.forall_mem_cons.mpr ⟨⟨_, _, _, _, _, _, _, SB_reason, rfl, rfl, Nat.le_of_ble_eq_true rfl, Nat.le_of_ble_eq_true rfl, cdB_reason, lkB_168, imB_reason, slB_reason, inB_reason, pmB_reason⟩, fun _ h => absurd h List.not_mem_nil⟩) XST_B_ok
def wB_firstFit_2 (f : Nat → Int32 → Int32 → XH → XR) : List Value → List Value → XH → XR := fun vs st h => match vs, st with
  | [.ref a0, .int x1, .int x2], [] => f a0 x1 x2 h
  | _, _ => none
def wB_firstFit (f : Nat → Int32 → XH → XR) : List Value → List Value → XH → XR := fun vs st h => match vs, st with
  | [.ref a0, .int x1], [] => f a0 x1 h
  | _, _ => none
set_option maxRecDepth 100000 in
theorem eB_firstFit_2_b (k2 : Nat → Int32 → Int32 → XH → XR) (a0 : Nat) (x1 : Int32) (x2 : Int32) (h : XH) : qB_firstFit_2_b k2 a0 x1 x2 h = xrun BB_firstFit (xfind [(2, ([0, 1, 2], wB_firstFit_2 (k2)))]) 19 2 (List.zip [0, 1, 2] [.ref a0, .int x1, .int x2]) [] h := rfl
theorem tB_firstFit_2_b {k2 : Nat → Int32 → Int32 → XH → XR} (hk2 : XTo cX0_firstFit 3 RX0 1 3 71 2 [0, 1, 2] (wB_firstFit_2 k2)) : XTo cX0_firstFit 3 RX0 1 3 71 2 [0, 1, 2] (wB_firstFit_2 (qB_firstFit_2_b k2)) := by
  refine XTo.run (B := BB_firstFit) (cut := xfind [(2, ([0, 1, 2], wB_firstFit_2 (k2)))]) kB_firstFit (xcuts_ok (List.forall_mem_cons.mpr ⟨hk2, fun _ h => absurd h List.not_mem_nil⟩)) 19 (fun vs st h r hr => ?_)
  unfold wB_firstFit_2 at hr
  split at hr
  · exact (eB_firstFit_2_b k2 _ _ _ _).symm.trans hr
  · cases hr
theorem tB_firstFit_2 : ∀ n : Nat, XTo cX0_firstFit 3 RX0 1 3 71 2 [0, 1, 2] (wB_firstFit_2 (qB_firstFit_2 n)) := by
  intro n
  induction n with
  | zero =>
    refine XTo.none fun vs st h => ?_
    unfold wB_firstFit_2
    split <;> rfl
  | succ n ih => exact tB_firstFit_2_b  ih
set_option maxRecDepth 100000 in
theorem eB_firstFit (a0 : Nat) (x1 : Int32) (h : XH) : qB_firstFit a0 x1 h = xrun BB_firstFit (xfind [(2, ([0, 1, 2], wB_firstFit_2 (qB_firstFit_2 LF)))]) 19 0 (List.zip [0, 1] [.ref a0, .int x1]) [] h := rfl
theorem tB_firstFit : XTo cX0_firstFit 3 RX0 1 3 71 0 [0, 1] (wB_firstFit (qB_firstFit)) := by
  refine XTo.run (B := BB_firstFit) (cut := xfind [(2, ([0, 1, 2], wB_firstFit_2 (qB_firstFit_2 LF)))]) kB_firstFit (xcuts_ok (List.forall_mem_cons.mpr ⟨tB_firstFit_2 LF, fun _ h => absurd h List.not_mem_nil⟩)) 19 (fun vs st h r hr => ?_)
  unfold wB_firstFit at hr
  split at hr
  · exact (eB_firstFit _ _ _).symm.trans hr
  · cases hr
def FB_firstFit : List Value → XH → XR := fun vs h => match vs with
  | [.ref a0, .int x1] => qB_firstFit a0 x1 h
  | _ => none
theorem SB_firstFit : XS yX0_firstFit cX0_firstFit 3 (some .int) (xrm 3 71) FB_firstFit := by
  refine XS.of (own := RX0) (by decide) rfl (rk := 1) rfl (tB_firstFit) (fun vs h r hr => ?_)
  unfold FB_firstFit at hr
  split at hr
  · exact ⟨rfl, Nat.le_of_ble_eq_true rfl, hr⟩
  · cases hr
-- LineDiagram$Board.onlyLabelUnder(II)I
def rB_onlyLabelUnder : List (Nat × XRow) := [(0, (.aload_n 0, 1, 0, .null, [])),
  (1, (.iload_n 1, 2, 1, .null, [])),
  (2, (.iload_n 2, 3, 2, .null, [])),
  (3, (.invokevirtual 165, 6, 165, .null, [])),
  (6, (.istore_n 3, 7, 3, .null, [])),
  (7, (.iload_n 3, 8, 3, .null, [])),
  (8, (.ifCond .lt 14, 11, 22, .null, [])),
  (11, (.aload_n 0, 12, 0, .null, [])),
  (12, (.iload_n 1, 13, 1, .null, [])),
  (13, (.iload_n 2, 14, 2, .null, [])),
  (14, (.invokevirtual 168, 17, 168, .null, [])),
  (17, (.bipush (-7), 19, 0, .int (-7 : Int32), [])),
  (19, (.if_icmp .eq 6, 22, 25, .null, [])),
  (22, (.bipush (-2), 24, 0, .int (-2 : Int32), [])),
  (24, (.ireturn, 25, 0, .null, [])),
  (25, (.iconst 0, 26, 0, .int (0 : Int32), [])),
  (26, (.istore 4, 28, 4, .null, [])),
  (28, (.iload_n 3, 29, 3, .null, [])),
  (29, (.istore 5, 31, 5, .null, [])),
  (31, (.iload 5, 33, 5, .null, [])),
  (33, (.iload_n 3, 34, 3, .null, [])),
  (34, (.aload_n 0, 35, 0, .null, [])),
  (35, (.getfield 24, 38, 24, .null, [])),
  (38, (.iload_n 1, 39, 1, .null, [])),
  (39, (.iaload, 40, 0, .null, [])),
  (40, (.iadd, 41, 0, .null, [])),
  (41, (.if_icmp .ge 53, 44, 94, .null, [])),
  (44, (.aload_n 0, 45, 0, .null, [])),
  (45, (.getfield 27, 48, 27, .null, [])),
  (48, (.iload 5, 50, 5, .null, [])),
  (50, (.iaload, 51, 0, .null, [])),
  (51, (.ifCond .eq 23, 54, 74, .null, [])),
  (54, (.iload 4, 56, 4, .null, [])),
  (56, (.ifCond .eq 18, 59, 74, .null, [])),
  (59, (.aload_n 0, 60, 0, .null, [])),
  (60, (.getfield 27, 63, 27, .null, [])),
  (63, (.iload 5, 65, 5, .null, [])),
  (65, (.iaload, 66, 0, .null, [])),
  (66, (.iload 4, 68, 4, .null, [])),
  (68, (.if_icmp .eq 6, 71, 74, .null, [])),
  (71, (.bipush (-2), 73, 0, .int (-2 : Int32), [])),
  (73, (.ireturn, 74, 0, .null, [])),
  (74, (.iload 4, 76, 4, .null, [])),
  (76, (.aload_n 0, 77, 0, .null, [])),
  (77, (.getfield 27, 80, 27, .null, [])),
  (80, (.iload 5, 82, 5, .null, [])),
  (82, (.iaload, 83, 0, .null, [])),
  (83, (.invokestatic 112, 86, 112, .int (2 : Int32), [])),
  (86, (.istore 4, 88, 4, .null, [])),
  (88, (.iinc 5 1, 91, 5, .int (1 : Int32), [])),
  (91, (.goto (-60), 94, 31, .null, [])),
  (94, (.iload 4, 96, 4, .null, [])),
  (96, (.iconst 1, 97, 0, .int (1 : Int32), [])),
  (97, (.isub, 98, 0, .null, [])),
  (98, (.ireturn, 99, 0, .null, []))]
def mB_onlyLabelUnder : List (Nat × XM) := [(165, (3, 1, some 0, FB_beginOf)), (168, (3, 1, some 0, FB_reason))]
abbrev BB_onlyLabelUnder : XB := (rB_onlyLabelUnder, XFT_B, mB_onlyLabelUnder, 1, XST_B)
set_option maxRecDepth 100000 in
theorem kB_onlyLabelUnder : XOK BB_onlyLabelUnder cX0_onlyLabelUnder 6 RX0 3 71 := xok_of (cps := [(112, 2)]) (K := XKT_B) (by decide +kernel) XKT_B_ok (List.forall_mem_cons.mpr ⟨lkB_cp112 _ _ (Nat.le_of_ble_eq_true rfl) (Nat.le_of_ble_eq_true rfl), fun _ h => absurd h List.not_mem_nil⟩) XFT_B_ok (List.forall_mem_cons.mpr ⟨⟨_, _, _, _, _, _, _, SB_beginOf, rfl, rfl, Nat.le_of_ble_eq_true rfl, Nat.le_of_ble_eq_true rfl, cdB_beginOf, lkB_165, imB_beginOf, slB_beginOf, inB_beginOf, pmB_beginOf⟩, List.forall_mem_cons.mpr ⟨⟨_, _, _, _, _, _, _, SB_reason, rfl, rfl, Nat.le_of_ble_eq_true rfl, Nat.le_of_ble_eq_true rfl, cdB_reason, lkB_168, imB_reason, slB_reason, inB_reason, pmB_reason⟩, fun _ h => absurd h List.not_mem_nil⟩⟩) XST_B_ok
def wB_onlyLabelUnder_74 (f : Nat → Int32 → Int32 → Int32 → Int32 → XH → XR) : List Value → List Value → XH → XR := fun vs st h => match vs, st with
  | [.ref a0, .int x1, .int x3, .int x4, .int x5], [] => f a0 x1 x3 x4 x5 h
  | _, _ => none
def wB_onlyLabelUnder_31 (f : Nat → Int32 → Int32 → Int32 → Int32 → XH → XR) : List Value → List Value → XH → XR := fun vs st h => match vs, st with
  | [.ref a0, .int x1, .int x3, .int x4, .int x5], [] => f a0 x1 x3 x4 x5 h
  | _, _ => none
def wB_onlyLabelUnder (f : Nat → Int32 → Int32 → XH → XR) : List Value → List Value → XH → XR := fun vs st h => match vs, st with
  | [.ref a0, .int x1, .int x2], [] => f a0 x1 x2 h
  | _, _ => none
set_option maxRecDepth 100000 in
theorem eB_onlyLabelUnder_74 (k31 : Nat → Int32 → Int32 → Int32 → Int32 → XH → XR) (a0 : Nat) (x1 : Int32) (x3 : Int32) (x4 : Int32) (x5 : Int32) (h : XH) : qB_onlyLabelUnder_74 k31 a0 x1 x3 x4 x5 h = xrun BB_onlyLabelUnder (xfind [(31, ([0, 1, 3, 4, 5], wB_onlyLabelUnder_31 (k31)))]) 58 74 (List.zip [0, 1, 3, 4, 5] [.ref a0, .int x1, .int x3, .int x4, .int x5]) [] h := rfl
theorem tB_onlyLabelUnder_74 {k31 : Nat → Int32 → Int32 → Int32 → Int32 → XH → XR} (hk31 : XTo cX0_onlyLabelUnder 6 RX0 1 3 71 31 [0, 1, 3, 4, 5] (wB_onlyLabelUnder_31 k31)) : XTo cX0_onlyLabelUnder 6 RX0 1 3 71 74 [0, 1, 3, 4, 5] (wB_onlyLabelUnder_74 (qB_onlyLabelUnder_74 k31)) := by
  refine XTo.run (B := BB_onlyLabelUnder) (cut := xfind [(31, ([0, 1, 3, 4, 5], wB_onlyLabelUnder_31 (k31)))]) kB_onlyLabelUnder (xcuts_ok (List.forall_mem_cons.mpr ⟨hk31, fun _ h => absurd h List.not_mem_nil⟩)) 58 (fun vs st h r hr => ?_)
  unfold wB_onlyLabelUnder_74 at hr
  split at hr
  · exact (eB_onlyLabelUnder_74 k31 _ _ _ _ _ _).symm.trans hr
  · cases hr
set_option maxRecDepth 100000 in
theorem eB_onlyLabelUnder_31_b (k31 : Nat → Int32 → Int32 → Int32 → Int32 → XH → XR) (a0 : Nat) (x1 : Int32) (x3 : Int32) (x4 : Int32) (x5 : Int32) (h : XH) : qB_onlyLabelUnder_31_b k31 a0 x1 x3 x4 x5 h = xrun BB_onlyLabelUnder (xfind [(74, ([0, 1, 3, 4, 5], wB_onlyLabelUnder_74 (qB_onlyLabelUnder_74 k31)))]) 58 31 (List.zip [0, 1, 3, 4, 5] [.ref a0, .int x1, .int x3, .int x4, .int x5]) [] h := rfl
theorem tB_onlyLabelUnder_31_b {k31 : Nat → Int32 → Int32 → Int32 → Int32 → XH → XR} (hk31 : XTo cX0_onlyLabelUnder 6 RX0 1 3 71 31 [0, 1, 3, 4, 5] (wB_onlyLabelUnder_31 k31)) : XTo cX0_onlyLabelUnder 6 RX0 1 3 71 31 [0, 1, 3, 4, 5] (wB_onlyLabelUnder_31 (qB_onlyLabelUnder_31_b k31)) := by
  refine XTo.run (B := BB_onlyLabelUnder) (cut := xfind [(74, ([0, 1, 3, 4, 5], wB_onlyLabelUnder_74 (qB_onlyLabelUnder_74 k31)))]) kB_onlyLabelUnder (xcuts_ok (List.forall_mem_cons.mpr ⟨tB_onlyLabelUnder_74 hk31, fun _ h => absurd h List.not_mem_nil⟩)) 58 (fun vs st h r hr => ?_)
  unfold wB_onlyLabelUnder_31 at hr
  split at hr
  · exact (eB_onlyLabelUnder_31_b k31 _ _ _ _ _ _).symm.trans hr
  · cases hr
theorem tB_onlyLabelUnder_31 : ∀ n : Nat, XTo cX0_onlyLabelUnder 6 RX0 1 3 71 31 [0, 1, 3, 4, 5] (wB_onlyLabelUnder_31 (qB_onlyLabelUnder_31 n)) := by
  intro n
  induction n with
  | zero =>
    refine XTo.none fun vs st h => ?_
    unfold wB_onlyLabelUnder_31
    split <;> rfl
  | succ n ih => exact tB_onlyLabelUnder_31_b  ih
set_option maxRecDepth 100000 in
theorem eB_onlyLabelUnder (a0 : Nat) (x1 : Int32) (x2 : Int32) (h : XH) : qB_onlyLabelUnder a0 x1 x2 h = xrun BB_onlyLabelUnder (xfind [(31, ([0, 1, 3, 4, 5], wB_onlyLabelUnder_31 (qB_onlyLabelUnder_31 LF)))]) 58 0 (List.zip [0, 1, 2] [.ref a0, .int x1, .int x2]) [] h := rfl
theorem tB_onlyLabelUnder : XTo cX0_onlyLabelUnder 6 RX0 1 3 71 0 [0, 1, 2] (wB_onlyLabelUnder (qB_onlyLabelUnder)) := by
  refine XTo.run (B := BB_onlyLabelUnder) (cut := xfind [(31, ([0, 1, 3, 4, 5], wB_onlyLabelUnder_31 (qB_onlyLabelUnder_31 LF)))]) kB_onlyLabelUnder (xcuts_ok (List.forall_mem_cons.mpr ⟨tB_onlyLabelUnder_31 LF, fun _ h => absurd h List.not_mem_nil⟩)) 58 (fun vs st h r hr => ?_)
  unfold wB_onlyLabelUnder at hr
  split at hr
  · exact (eB_onlyLabelUnder _ _ _ _).symm.trans hr
  · cases hr
def FB_onlyLabelUnder : List Value → XH → XR := fun vs h => match vs with
  | [.ref a0, .int x1, .int x2] => qB_onlyLabelUnder a0 x1 x2 h
  | _ => none
theorem SB_onlyLabelUnder : XS yX0_onlyLabelUnder cX0_onlyLabelUnder 6 (some .int) (xrm 3 71) FB_onlyLabelUnder := by
  refine XS.of (own := RX0) (by decide) rfl (rk := 1) rfl (tB_onlyLabelUnder) (fun vs h r hr => ?_)
  unfold FB_onlyLabelUnder at hr
  split at hr
  · exact ⟨rfl, Nat.le_of_ble_eq_true rfl, hr⟩
  · cases hr
-- LineDiagram.refugeBeside(III)I
def rD_refugeBeside : List (Nat × XRow) := [(0, (.aload_n 0, 1, 0, .null, [])),
  (1, (.getfield 29, 4, 29, .null, [])),
  (4, (.getfield 161, 7, 161, .null, [])),
  (7, (.iload_n 3, 8, 3, .null, [])),
  (8, (.invokevirtual 165, 11, 165, .null, [])),
  (11, (.istore 4, 13, 4, .null, [])),
  (13, (.aload_n 0, 14, 0, .null, [])),
  (14, (.getfield 54, 17, 54, .null, [])),
  (17, (.iload_n 1, 18, 1, .null, [])),
  (18, (.iload_n 2, 19, 2, .null, [])),
  (19, (.iload_n 1, 20, 1, .null, [])),
  (20, (.iconst 1, 21, 0, .int (1 : Int32), [])),
  (21, (.iadd, 22, 0, .null, [])),
  (22, (.invokevirtual 362, 25, 362, .null, [])),
  (25, (.aload_n 0, 26, 0, .null, [])),
  (26, (.getfield 54, 29, 54, .null, [])),
  (29, (.iload_n 3, 30, 3, .null, [])),
  (30, (.invokevirtual 186, 33, 186, .null, [])),
  (33, (.istore 5, 35, 5, .null, [])),
  (35, (.aload_n 0, 36, 0, .null, [])),
  (36, (.getfield 54, 39, 54, .null, [])),
  (39, (.iload_n 1, 40, 1, .null, [])),
  (40, (.iload_n 2, 41, 2, .null, [])),
  (41, (.iconst 0, 42, 0, .int (0 : Int32), [])),
  (42, (.invokevirtual 362, 45, 362, .null, [])),
  (45, (.aload_n 0, 46, 0, .null, [])),
  (46, (.getfield 54, 49, 54, .null, [])),
  (49, (.iload_n 3, 50, 3, .null, [])),
  (50, (.iload 4, 52, 4, .null, [])),
  (52, (.iload_n 3, 53, 3, .null, [])),
  (53, (.iconst 1, 54, 0, .int (1 : Int32), [])),
  (54, (.iadd, 55, 0, .null, [])),
  (55, (.invokevirtual 362, 58, 362, .null, [])),
  (58, (.iload 5, 60, 5, .null, [])),
  (60, (.ireturn, 61, 0, .null, []))]
def mD_refugeBeside : List (Nat × XM) := [(165, (2, 1, some 2, FLb_positionOf)), (186, (2, 1, some 0, FB_firstFit)), (362, (4, 0, some 0, FB_paint))]
abbrev BD_refugeBeside : XB := (rD_refugeBeside, XFT_D, mD_refugeBeside, 1, XST_D)
set_option maxRecDepth 100000 in
theorem kD_refugeBeside : XOK BD_refugeBeside cX8_refugeBeside 6 RX8 4 93 := xok_of (cps := []) (K := XKT_D) (by decide +kernel) XKT_D_ok (fun _ h => absurd h List.not_mem_nil) XFT_D_ok (List.forall_mem_cons.mpr ⟨⟨_, _, _, _, _, _, _, SLb_positionOf, rfl, rfl, Nat.le_of_ble_eq_true rfl, Nat.le_of_ble_eq_true rfl, cdLb_positionOf, lkD_165, imLb_positionOf, slLb_positionOf, inLb_positionOf, pmLb_positionOf⟩, List.forall_mem_cons.mpr ⟨⟨_, _, _, _, _, _, _, SB_firstFit, rfl, rfl, Nat.le_of_ble_eq_true rfl, Nat.le_of_ble_eq_true rfl, cdB_firstFit, lkD_186, imB_firstFit, slB_firstFit, inB_firstFit, pmB_firstFit⟩, List.forall_mem_cons.mpr ⟨⟨_, _, _, _, _, _, _, SB_paint, rfl, rfl, Nat.le_of_ble_eq_true rfl, Nat.le_of_ble_eq_true rfl, cdB_paint, lkD_362, imB_paint, slB_paint, inB_paint, pmB_paint⟩, fun _ h => absurd h List.not_mem_nil⟩⟩⟩) XST_D_ok
def wD_refugeBeside (f : Nat → Int32 → Int32 → Int32 → XH → XR) : List Value → List Value → XH → XR := fun vs st h => match vs, st with
  | [.ref a0, .int x1, .int x2, .int x3], [] => f a0 x1 x2 x3 h
  | _, _ => none
set_option maxRecDepth 100000 in
theorem eD_refugeBeside (a0 : Nat) (x1 : Int32) (x2 : Int32) (x3 : Int32) (h : XH) : qD_refugeBeside a0 x1 x2 x3 h = xrun BD_refugeBeside (xfind []) 38 0 (List.zip [0, 1, 2, 3] [.ref a0, .int x1, .int x2, .int x3]) [] h := rfl
theorem tD_refugeBeside : XTo cX8_refugeBeside 6 RX8 1 4 93 0 [0, 1, 2, 3] (wD_refugeBeside (qD_refugeBeside)) := by
  refine XTo.run (B := BD_refugeBeside) (cut := xfind []) kD_refugeBeside (xcuts_ok (fun _ h => absurd h List.not_mem_nil)) 38 (fun vs st h r hr => ?_)
  unfold wD_refugeBeside at hr
  split at hr
  · exact (eD_refugeBeside _ _ _ _ _).symm.trans hr
  · cases hr
def FD_refugeBeside : List Value → XH → XR := fun vs h => match vs with
  | [.ref a0, .int x1, .int x2, .int x3] => qD_refugeBeside a0 x1 x2 x3 h
  | _ => none
theorem SD_refugeBeside : XS yX8_refugeBeside cX8_refugeBeside 6 (some .int) (xrm 4 93) FD_refugeBeside := by
  refine XS.of (own := RX8) (by decide) rfl (rk := 1) rfl (tD_refugeBeside) (fun vs h r hr => ?_)
  unfold FD_refugeBeside at hr
  split at hr
  · exact ⟨rfl, Nat.le_of_ble_eq_true rfl, hr⟩
  · cases hr
-- LineDiagram.pushAside(I)I
def rD_pushAside : List (Nat × XRow) := [(0, (.iconst 0, 1, 0, .int (0 : Int32), [])),
  (1, (.istore_n 2, 2, 2, .null, [])),
  (2, (.iload_n 2, 3, 2, .null, [])),
  (3, (.bipush 8, 5, 0, .int (8 : Int32), [])),
  (5, (.if_icmp .ge 73, 8, 78, .null, [])),
  (8, (.aload_n 0, 9, 0, .null, [])),
  (9, (.getfield 54, 12, 54, .null, [])),
  (12, (.iload_n 1, 13, 1, .null, [])),
  (13, (.iload_n 2, 14, 2, .null, [])),
  (14, (.invokevirtual 368, 17, 368, .null, [])),
  (17, (.istore_n 3, 18, 3, .null, [])),
  (18, (.iload_n 3, 19, 3, .null, [])),
  (19, (.ifCond .ge 8, 22, 27, .null, [])),
  (22, (.bipush (-2), 24, 0, .int (-2 : Int32), [])),
  (24, (.goto 10, 27, 34, .null, [])),
  (27, (.aload_n 0, 28, 0, .null, [])),
  (28, (.iload_n 1, 29, 1, .null, [])),
  (29, (.iload_n 2, 30, 2, .null, [])),
  (30, (.iload_n 3, 31, 3, .null, [])),
  (31, (.invokevirtual 371, 34, 371, .null, [])),
  (34, (.istore 4, 36, 4, .null, [])),
  (36, (.iload 4, 38, 4, .null, [])),
  (38, (.ifCond .lt 34, 41, 72, .null, [])),
  (41, (.aload_n 0, 42, 0, .null, [])),
  (42, (.getfield 47, 45, 47, .null, [])),
  (45, (.aload_n 0, 46, 0, .null, [])),
  (46, (.getfield 29, 49, 29, .null, [])),
  (49, (.invokevirtual 173, 52, 173, .null, [])),
  (52, (.aload_n 0, 53, 0, .null, [])),
  (53, (.iload_n 3, 54, 3, .null, [])),
  (54, (.invokevirtual 183, 57, 183, .null, [])),
  (57, (.aload_n 0, 58, 0, .null, [])),
  (58, (.iload_n 1, 59, 1, .null, [])),
  (59, (.iload_n 2, 60, 2, .null, [])),
  (60, (.invokevirtual 176, 63, 176, .null, [])),
  (63, (.aload_n 0, 64, 0, .null, [])),
  (64, (.iload_n 3, 65, 3, .null, [])),
  (65, (.iload 4, 67, 4, .null, [])),
  (67, (.invokevirtual 176, 70, 176, .null, [])),
  (70, (.iload_n 2, 71, 2, .null, [])),
  (71, (.ireturn, 72, 0, .null, [])),
  (72, (.iinc 2 1, 75, 2, .int (1 : Int32), [])),
  (75, (.goto (-73), 78, 2, .null, [])),
  (78, (.bipush (-2), 80, 0, .int (-2 : Int32), [])),
  (80, (.ireturn, 81, 0, .null, []))]
def mD_pushAside : List (Nat × XM) := [(173, (2, 0, some 1, FH_push)), (176, (3, 0, some 8, FD_putLabel)), (183, (2, 0, some 8, FD_takeLabel)), (368, (3, 1, some 0, FB_onlyLabelUnder)), (371, (4, 1, some 8, FD_refugeBeside))]
abbrev BD_pushAside : XB := (rD_pushAside, XFT_D, mD_pushAside, 1, XST_D)
set_option maxRecDepth 100000 in
theorem kD_pushAside : XOK BD_pushAside cX8_pushAside 5 RX8 5 128 := xok_of (cps := []) (K := XKT_D) (by decide +kernel) XKT_D_ok (fun _ h => absurd h List.not_mem_nil) XFT_D_ok (List.forall_mem_cons.mpr ⟨⟨_, _, _, _, _, _, _, SH_push, rfl, rfl, Nat.le_of_ble_eq_true rfl, Nat.le_of_ble_eq_true rfl, cdH_push, lkD_173, imH_push, slH_push, inH_push, pmH_push⟩, List.forall_mem_cons.mpr ⟨⟨_, _, _, _, _, _, _, SD_putLabel, rfl, rfl, Nat.le_of_ble_eq_true rfl, Nat.le_of_ble_eq_true rfl, cdD_putLabel, lkD_176, imD_putLabel, slD_putLabel, inD_putLabel, pmD_putLabel⟩, List.forall_mem_cons.mpr ⟨⟨_, _, _, _, _, _, _, SD_takeLabel, rfl, rfl, Nat.le_of_ble_eq_true rfl, Nat.le_of_ble_eq_true rfl, cdD_takeLabel, lkD_183, imD_takeLabel, slD_takeLabel, inD_takeLabel, pmD_takeLabel⟩, List.forall_mem_cons.mpr ⟨⟨_, _, _, _, _, _, _, SB_onlyLabelUnder, rfl, rfl, Nat.le_of_ble_eq_true rfl, Nat.le_of_ble_eq_true rfl, cdB_onlyLabelUnder, lkD_368, imB_onlyLabelUnder, slB_onlyLabelUnder, inB_onlyLabelUnder, pmB_onlyLabelUnder⟩, List.forall_mem_cons.mpr ⟨⟨_, _, _, _, _, _, _, SD_refugeBeside, rfl, rfl, Nat.le_of_ble_eq_true rfl, Nat.le_of_ble_eq_true rfl, cdD_refugeBeside, lkD_371, imD_refugeBeside, slD_refugeBeside, inD_refugeBeside, pmD_refugeBeside⟩, fun _ h => absurd h List.not_mem_nil⟩⟩⟩⟩⟩) XST_D_ok
def wD_pushAside_41 (f : Nat → Int32 → Int32 → Int32 → Int32 → XH → XR) : List Value → List Value → XH → XR := fun vs st h => match vs, st with
  | [.ref a0, .int x1, .int x2, .int x3, .int x4], [] => f a0 x1 x2 x3 x4 h
  | _, _ => none
def wD_pushAside_34 (f : Nat → Int32 → Int32 → Int32 → Int32 → XH → XR) : List Value → List Value → XH → XR := fun vs st h => match vs, st with
  | [.ref a0, .int x1, .int x2, .int x3], [.int s0] => f a0 x1 x2 x3 s0 h
  | _, _ => none
def wD_pushAside_2 (f : Nat → Int32 → Int32 → XH → XR) : List Value → List Value → XH → XR := fun vs st h => match vs, st with
  | [.ref a0, .int x1, .int x2], [] => f a0 x1 x2 h
  | _, _ => none
def wD_pushAside (f : Nat → Int32 → XH → XR) : List Value → List Value → XH → XR := fun vs st h => match vs, st with
  | [.ref a0, .int x1], [] => f a0 x1 h
  | _, _ => none
set_option maxRecDepth 100000 in
theorem eD_pushAside_41 (a0 : Nat) (x1 : Int32) (x2 : Int32) (x3 : Int32) (x4 : Int32) (h : XH) : qD_pushAside_41 a0 x1 x2 x3 x4 h = xrun BD_pushAside (xfind []) 48 41 (List.zip [0, 1, 2, 3, 4] [.ref a0, .int x1, .int x2, .int x3, .int x4]) [] h := rfl
theorem tD_pushAside_41 : XTo cX8_pushAside 5 RX8 1 5 128 41 [0, 1, 2, 3, 4] (wD_pushAside_41 (qD_pushAside_41)) := by
  refine XTo.run (B := BD_pushAside) (cut := xfind []) kD_pushAside (xcuts_ok (fun _ h => absurd h List.not_mem_nil)) 48 (fun vs st h r hr => ?_)
  unfold wD_pushAside_41 at hr
  split at hr
  · exact (eD_pushAside_41 _ _ _ _ _ _).symm.trans hr
  · cases hr
set_option maxRecDepth 100000 in
theorem eD_pushAside_34 (k2 : Nat → Int32 → Int32 → XH → XR) (a0 : Nat) (x1 : Int32) (x2 : Int32) (x3 : Int32) (s0 : Int32) (h : XH) : qD_pushAside_34 k2 a0 x1 x2 x3 s0 h = xrun BD_pushAside (xfind [(2, ([0, 1, 2], wD_pushAside_2 (k2))), (41, ([0, 1, 2, 3, 4], wD_pushAside_41 (qD_pushAside_41)))]) 48 34 (List.zip [0, 1, 2, 3] [.ref a0, .int x1, .int x2, .int x3]) [.int s0] h := rfl
theorem tD_pushAside_34 {k2 : Nat → Int32 → Int32 → XH → XR} (hk2 : XTo cX8_pushAside 5 RX8 1 5 128 2 [0, 1, 2] (wD_pushAside_2 k2)) : XTo cX8_pushAside 5 RX8 1 5 128 34 [0, 1, 2, 3] (wD_pushAside_34 (qD_pushAside_34 k2)) := by
  refine XTo.run (B := BD_pushAside) (cut := xfind [(2, ([0, 1, 2], wD_pushAside_2 (k2))), (41, ([0, 1, 2, 3, 4], wD_pushAside_41 (qD_pushAside_41)))]) kD_pushAside (xcuts_ok (List.forall_mem_cons.mpr ⟨hk2, List.forall_mem_cons.mpr ⟨tD_pushAside_41, fun _ h => absurd h List.not_mem_nil⟩⟩)) 48 (fun vs st h r hr => ?_)
  unfold wD_pushAside_34 at hr
  split at hr
  · exact (eD_pushAside_34 k2 _ _ _ _ _ _).symm.trans hr
  · cases hr
set_option maxRecDepth 100000 in
theorem eD_pushAside_2_b (k2 : Nat → Int32 → Int32 → XH → XR) (a0 : Nat) (x1 : Int32) (x2 : Int32) (h : XH) : qD_pushAside_2_b k2 a0 x1 x2 h = xrun BD_pushAside (xfind [(34, ([0, 1, 2, 3], wD_pushAside_34 (qD_pushAside_34 k2)))]) 48 2 (List.zip [0, 1, 2] [.ref a0, .int x1, .int x2]) [] h := rfl
theorem tD_pushAside_2_b {k2 : Nat → Int32 → Int32 → XH → XR} (hk2 : XTo cX8_pushAside 5 RX8 1 5 128 2 [0, 1, 2] (wD_pushAside_2 k2)) : XTo cX8_pushAside 5 RX8 1 5 128 2 [0, 1, 2] (wD_pushAside_2 (qD_pushAside_2_b k2)) := by
  refine XTo.run (B := BD_pushAside) (cut := xfind [(34, ([0, 1, 2, 3], wD_pushAside_34 (qD_pushAside_34 k2)))]) kD_pushAside (xcuts_ok (List.forall_mem_cons.mpr ⟨tD_pushAside_34 hk2, fun _ h => absurd h List.not_mem_nil⟩)) 48 (fun vs st h r hr => ?_)
  unfold wD_pushAside_2 at hr
  split at hr
  · exact (eD_pushAside_2_b k2 _ _ _ _).symm.trans hr
  · cases hr
theorem tD_pushAside_2 : ∀ n : Nat, XTo cX8_pushAside 5 RX8 1 5 128 2 [0, 1, 2] (wD_pushAside_2 (qD_pushAside_2 n)) := by
  intro n
  induction n with
  | zero =>
    refine XTo.none fun vs st h => ?_
    unfold wD_pushAside_2
    split <;> rfl
  | succ n ih => exact tD_pushAside_2_b  ih
set_option maxRecDepth 100000 in
theorem eD_pushAside (a0 : Nat) (x1 : Int32) (h : XH) : qD_pushAside a0 x1 h = xrun BD_pushAside (xfind [(2, ([0, 1, 2], wD_pushAside_2 (qD_pushAside_2 LF)))]) 48 0 (List.zip [0, 1] [.ref a0, .int x1]) [] h := rfl
theorem tD_pushAside : XTo cX8_pushAside 5 RX8 1 5 128 0 [0, 1] (wD_pushAside (qD_pushAside)) := by
  refine XTo.run (B := BD_pushAside) (cut := xfind [(2, ([0, 1, 2], wD_pushAside_2 (qD_pushAside_2 LF)))]) kD_pushAside (xcuts_ok (List.forall_mem_cons.mpr ⟨tD_pushAside_2 LF, fun _ h => absurd h List.not_mem_nil⟩)) 48 (fun vs st h r hr => ?_)
  unfold wD_pushAside at hr
  split at hr
  · exact (eD_pushAside _ _ _).symm.trans hr
  · cases hr
def FD_pushAside : List Value → XH → XR := fun vs h => match vs with
  | [.ref a0, .int x1] => qD_pushAside a0 x1 h
  | _ => none
theorem SD_pushAside : XS yX8_pushAside cX8_pushAside 5 (some .int) (xrm 5 128) FD_pushAside := by
  refine XS.of (own := RX8) (by decide) rfl (rk := 1) rfl (tD_pushAside) (fun vs h r hr => ?_)
  unfold FD_pushAside at hr
  split at hr
  · exact ⟨rfl, Nat.le_of_ble_eq_true rfl, hr⟩
  · cases hr
-- LineDiagram.dodge(II)I
def rD_dodge : List (Nat × XRow) := [(0, (.aload_n 0, 1, 0, .null, [])),
  (1, (.iload_n 1, 2, 1, .null, [])),
  (2, (.iload_n 2, 3, 2, .null, [])),
  (3, (.invokevirtual 151, 6, 151, .null, [])),
  (6, (.ifCond .ne 5, 9, 11, .null, [])),
  (9, (.iconst (-1), 10, 0, .int (-1 : Int32), [])),
  (10, (.ireturn, 11, 0, .null, [])),
  (11, (.aload_n 0, 12, 0, .null, [])),
  (12, (.getfield 54, 15, 54, .null, [])),
  (15, (.iload_n 1, 16, 1, .null, [])),
  (16, (.iload_n 2, 17, 2, .null, [])),
  (17, (.invokevirtual 157, 20, 157, .null, [])),
  (20, (.istore_n 3, 21, 3, .null, [])),
  (21, (.aload_n 0, 22, 0, .null, [])),
  (22, (.getfield 29, 25, 29, .null, [])),
  (25, (.getfield 161, 28, 161, .null, [])),
  (28, (.iload_n 3, 29, 3, .null, [])),
  (29, (.invokevirtual 165, 32, 165, .null, [])),
  (32, (.ifCond .lt 6, 35, 38, .null, [])),
  (35, (.bipush (-2), 37, 0, .int (-2 : Int32), [])),
  (37, (.ireturn, 38, 0, .null, [])),
  (38, (.aload_n 0, 39, 0, .null, [])),
  (39, (.getfield 54, 42, 54, .null, [])),
  (42, (.iload_n 3, 43, 3, .null, [])),
  (43, (.invokevirtual 186, 46, 186, .null, [])),
  (46, (.istore 4, 48, 4, .null, [])),
  (48, (.iload 4, 50, 4, .null, [])),
  (50, (.ifCond .ge 9, 53, 59, .null, [])),
  (53, (.aload_n 0, 54, 0, .null, [])),
  (54, (.iload_n 3, 55, 3, .null, [])),
  (55, (.invokevirtual 189, 58, 189, .null, [])),
  (58, (.ireturn, 59, 0, .null, [])),
  (59, (.aload_n 0, 60, 0, .null, [])),
  (60, (.getfield 47, 63, 47, .null, [])),
  (63, (.aload_n 0, 64, 0, .null, [])),
  (64, (.getfield 29, 67, 29, .null, [])),
  (67, (.invokevirtual 173, 70, 173, .null, [])),
  (70, (.aload_n 0, 71, 0, .null, [])),
  (71, (.iload_n 3, 72, 3, .null, [])),
  (72, (.iload 4, 74, 4, .null, [])),
  (74, (.invokevirtual 176, 77, 176, .null, [])),
  (77, (.iload 4, 79, 4, .null, [])),
  (79, (.ireturn, 80, 0, .null, []))]
def mD_dodge : List (Nat × XM) := [(151, (3, 1, some 8, FD_isStation)), (157, (3, 1, some 0, FB_stationCell)), (165, (2, 1, some 2, FLb_positionOf)), (173, (2, 0, some 1, FH_push)), (176, (3, 0, some 8, FD_putLabel)), (186, (2, 1, some 0, FB_firstFit)), (189, (2, 1, some 8, FD_pushAside))]
abbrev BD_dodge : XB := (rD_dodge, XFT_D, mD_dodge, 1, XST_D)
set_option maxRecDepth 100000 in
theorem kD_dodge : XOK BD_dodge cX8_dodge 5 RX8 6 152 := xok_of (cps := []) (K := XKT_D) (by decide +kernel) XKT_D_ok (fun _ h => absurd h List.not_mem_nil) XFT_D_ok (List.forall_mem_cons.mpr ⟨⟨_, _, _, _, _, _, _, SD_isStation, rfl, rfl, Nat.le_of_ble_eq_true rfl, Nat.le_of_ble_eq_true rfl, cdD_isStation, lkD_151, imD_isStation, slD_isStation, inD_isStation, pmD_isStation⟩, List.forall_mem_cons.mpr ⟨⟨_, _, _, _, _, _, _, SB_stationCell, rfl, rfl, Nat.le_of_ble_eq_true rfl, Nat.le_of_ble_eq_true rfl, cdB_stationCell, lkD_157, imB_stationCell, slB_stationCell, inB_stationCell, pmB_stationCell⟩, List.forall_mem_cons.mpr ⟨⟨_, _, _, _, _, _, _, SLb_positionOf, rfl, rfl, Nat.le_of_ble_eq_true rfl, Nat.le_of_ble_eq_true rfl, cdLb_positionOf, lkD_165, imLb_positionOf, slLb_positionOf, inLb_positionOf, pmLb_positionOf⟩, List.forall_mem_cons.mpr ⟨⟨_, _, _, _, _, _, _, SH_push, rfl, rfl, Nat.le_of_ble_eq_true rfl, Nat.le_of_ble_eq_true rfl, cdH_push, lkD_173, imH_push, slH_push, inH_push, pmH_push⟩, List.forall_mem_cons.mpr ⟨⟨_, _, _, _, _, _, _, SD_putLabel, rfl, rfl, Nat.le_of_ble_eq_true rfl, Nat.le_of_ble_eq_true rfl, cdD_putLabel, lkD_176, imD_putLabel, slD_putLabel, inD_putLabel, pmD_putLabel⟩, List.forall_mem_cons.mpr ⟨⟨_, _, _, _, _, _, _, SB_firstFit, rfl, rfl, Nat.le_of_ble_eq_true rfl, Nat.le_of_ble_eq_true rfl, cdB_firstFit, lkD_186, imB_firstFit, slB_firstFit, inB_firstFit, pmB_firstFit⟩, List.forall_mem_cons.mpr ⟨⟨_, _, _, _, _, _, _, SD_pushAside, rfl, rfl, Nat.le_of_ble_eq_true rfl, Nat.le_of_ble_eq_true rfl, cdD_pushAside, lkD_189, imD_pushAside, slD_pushAside, inD_pushAside, pmD_pushAside⟩, fun _ h => absurd h List.not_mem_nil⟩⟩⟩⟩⟩⟩⟩) XST_D_ok
def wD_dodge (f : Nat → Int32 → Int32 → XH → XR) : List Value → List Value → XH → XR := fun vs st h => match vs, st with
  | [.ref a0, .int x1, .int x2], [] => f a0 x1 x2 h
  | _, _ => none
set_option maxRecDepth 100000 in
theorem eD_dodge (a0 : Nat) (x1 : Int32) (x2 : Int32) (h : XH) : qD_dodge a0 x1 x2 h = xrun BD_dodge (xfind []) 46 0 (List.zip [0, 1, 2] [.ref a0, .int x1, .int x2]) [] h := rfl
theorem tD_dodge : XTo cX8_dodge 5 RX8 1 6 152 0 [0, 1, 2] (wD_dodge (qD_dodge)) := by
  refine XTo.run (B := BD_dodge) (cut := xfind []) kD_dodge (xcuts_ok (fun _ h => absurd h List.not_mem_nil)) 46 (fun vs st h r hr => ?_)
  unfold wD_dodge at hr
  split at hr
  · exact (eD_dodge _ _ _ _).symm.trans hr
  · cases hr
def FD_dodge : List Value → XH → XR := fun vs h => match vs with
  | [.ref a0, .int x1, .int x2] => qD_dodge a0 x1 x2 h
  | _ => none
theorem SD_dodge : XS yX8_dodge cX8_dodge 5 (some .int) (xrm 6 152) FD_dodge := by
  refine XS.of (own := RX8) (by decide) rfl (rk := 1) rfl (tD_dodge) (fun vs h r hr => ?_)
  unfold FD_dodge at hr
  split at hr
  · exact ⟨rfl, Nat.le_of_ble_eq_true rfl, hr⟩
  · cases hr
-- LineDiagramModel.firstFree(I)I
def rM_firstFree : List (Nat × XRow) := [(0, (.iconst 0, 1, 0, .int (0 : Int32), [])),
  (1, (.istore_n 2, 2, 2, .null, [])),
  (2, (.iload_n 2, 3, 2, .null, [])),
  (3, (.bipush 8, 5, 0, .int (8 : Int32), [])),
  (5, (.if_icmp .ge 20, 8, 25, .null, [])),
  (8, (.aload_n 0, 9, 0, .null, [])),
  (9, (.iload_n 1, 10, 1, .null, [])),
  (10, (.iload_n 2, 11, 2, .null, [])),
  (11, (.invokevirtual 199, 14, 199, .null, [])),
  (14, (.ifCond .ne 5, 17, 19, .null, [])),
  (17, (.iload_n 2, 18, 2, .null, [])),
  (18, (.ireturn, 19, 0, .null, [])),
  (19, (.iinc 2 1, 22, 2, .int (1 : Int32), [])),
  (22, (.goto (-20), 25, 2, .null, [])),
  (25, (.bipush (-2), 27, 0, .int (-2 : Int32), [])),
  (27, (.ireturn, 28, 0, .null, []))]
def mM_firstFree : List (Nat × XM) := [(199, (3, 1, some 9, FM_whyNot))]
abbrev BM_firstFree : XB := (rM_firstFree, XFT_M, mM_firstFree, 1, XST_M)
set_option maxRecDepth 100000 in
theorem kM_firstFree : XOK BM_firstFree cX9_firstFree 3 RX9 3 71 := xok_of (cps := []) (K := XKT_M) (by decide +kernel) XKT_M_ok (fun _ h => absurd h List.not_mem_nil) XFT_M_ok (List.forall_mem_cons.mpr ⟨⟨_, _, _, _, _, _, _, SM_whyNot, rfl, rfl, Nat.le_of_ble_eq_true rfl, Nat.le_of_ble_eq_true rfl, cdM_whyNot, lkM_199, imM_whyNot, slM_whyNot, inM_whyNot, pmM_whyNot⟩, fun _ h => absurd h List.not_mem_nil⟩) XST_M_ok
def wM_firstFree_2 (f : Nat → Int32 → Int32 → XH → XR) : List Value → List Value → XH → XR := fun vs st h => match vs, st with
  | [.ref a0, .int x1, .int x2], [] => f a0 x1 x2 h
  | _, _ => none
def wM_firstFree (f : Nat → Int32 → XH → XR) : List Value → List Value → XH → XR := fun vs st h => match vs, st with
  | [.ref a0, .int x1], [] => f a0 x1 h
  | _, _ => none
set_option maxRecDepth 100000 in
theorem eM_firstFree_2_b (k2 : Nat → Int32 → Int32 → XH → XR) (a0 : Nat) (x1 : Int32) (x2 : Int32) (h : XH) : qM_firstFree_2_b k2 a0 x1 x2 h = xrun BM_firstFree (xfind [(2, ([0, 1, 2], wM_firstFree_2 (k2)))]) 19 2 (List.zip [0, 1, 2] [.ref a0, .int x1, .int x2]) [] h := rfl
theorem tM_firstFree_2_b {k2 : Nat → Int32 → Int32 → XH → XR} (hk2 : XTo cX9_firstFree 3 RX9 1 3 71 2 [0, 1, 2] (wM_firstFree_2 k2)) : XTo cX9_firstFree 3 RX9 1 3 71 2 [0, 1, 2] (wM_firstFree_2 (qM_firstFree_2_b k2)) := by
  refine XTo.run (B := BM_firstFree) (cut := xfind [(2, ([0, 1, 2], wM_firstFree_2 (k2)))]) kM_firstFree (xcuts_ok (List.forall_mem_cons.mpr ⟨hk2, fun _ h => absurd h List.not_mem_nil⟩)) 19 (fun vs st h r hr => ?_)
  unfold wM_firstFree_2 at hr
  split at hr
  · exact (eM_firstFree_2_b k2 _ _ _ _).symm.trans hr
  · cases hr
theorem tM_firstFree_2 : ∀ n : Nat, XTo cX9_firstFree 3 RX9 1 3 71 2 [0, 1, 2] (wM_firstFree_2 (qM_firstFree_2 n)) := by
  intro n
  induction n with
  | zero =>
    refine XTo.none fun vs st h => ?_
    unfold wM_firstFree_2
    split <;> rfl
  | succ n ih => exact tM_firstFree_2_b  ih
set_option maxRecDepth 100000 in
theorem eM_firstFree (a0 : Nat) (x1 : Int32) (h : XH) : qM_firstFree a0 x1 h = xrun BM_firstFree (xfind [(2, ([0, 1, 2], wM_firstFree_2 (qM_firstFree_2 LF)))]) 19 0 (List.zip [0, 1] [.ref a0, .int x1]) [] h := rfl
theorem tM_firstFree : XTo cX9_firstFree 3 RX9 1 3 71 0 [0, 1] (wM_firstFree (qM_firstFree)) := by
  refine XTo.run (B := BM_firstFree) (cut := xfind [(2, ([0, 1, 2], wM_firstFree_2 (qM_firstFree_2 LF)))]) kM_firstFree (xcuts_ok (List.forall_mem_cons.mpr ⟨tM_firstFree_2 LF, fun _ h => absurd h List.not_mem_nil⟩)) 19 (fun vs st h r hr => ?_)
  unfold wM_firstFree at hr
  split at hr
  · exact (eM_firstFree _ _ _).symm.trans hr
  · cases hr
def FM_firstFree : List Value → XH → XR := fun vs h => match vs with
  | [.ref a0, .int x1] => qM_firstFree a0 x1 h
  | _ => none
theorem SM_firstFree : XS yX9_firstFree cX9_firstFree 3 (some .int) (xrm 3 71) FM_firstFree := by
  refine XS.of (own := RX9) (by decide) rfl (rk := 1) rfl (tM_firstFree) (fun vs h r hr => ?_)
  unfold FM_firstFree at hr
  split at hr
  · exact ⟨rfl, Nat.le_of_ble_eq_true rfl, hr⟩
  · cases hr
-- LineDiagramModel.gets(II)V
def rM_gets : List (Nat × XRow) := [(0, (.aload_n 0, 1, 0, .null, [])),
  (1, (.getfield 21, 4, 21, .null, [])),
  (4, (.sipush 184, 7, 0, .int (184 : Int32), [])),
  (7, (.iload_n 1, 8, 1, .null, [])),
  (8, (.iadd, 9, 0, .null, [])),
  (9, (.iload_n 2, 10, 2, .null, [])),
  (10, (.iastore, 11, 0, .null, [])),
  (11, (.aload_n 0, 12, 0, .null, [])),
  (12, (.iload_n 1, 13, 1, .null, [])),
  (13, (.iload_n 2, 14, 2, .null, [])),
  (14, (.iload_n 1, 15, 1, .null, [])),
  (15, (.invokevirtual 184, 18, 184, .null, [])),
  (18, (.return_, 19, 0, .null, []))]
def mM_gets : List (Nat × XM) := [(184, (4, 0, some 9, FM_laysLabel))]
abbrev BM_gets : XB := (rM_gets, XFT_M, mM_gets, 0, XST_M)
set_option maxRecDepth 100000 in
theorem kM_gets : XOK BM_gets cX9_gets 3 RX9 2 48 := xok_of (cps := []) (K := XKT_M) (by decide +kernel) XKT_M_ok (fun _ h => absurd h List.not_mem_nil) XFT_M_ok (List.forall_mem_cons.mpr ⟨⟨_, _, _, _, _, _, _, SM_laysLabel, rfl, rfl, Nat.le_of_ble_eq_true rfl, Nat.le_of_ble_eq_true rfl, cdM_laysLabel, lkM_184, imM_laysLabel, slM_laysLabel, inM_laysLabel, pmM_laysLabel⟩, fun _ h => absurd h List.not_mem_nil⟩) XST_M_ok
def wM_gets (f : Nat → Int32 → Int32 → XH → XR) : List Value → List Value → XH → XR := fun vs st h => match vs, st with
  | [.ref a0, .int x1, .int x2], [] => f a0 x1 x2 h
  | _, _ => none
set_option maxRecDepth 100000 in
theorem eM_gets (a0 : Nat) (x1 : Int32) (x2 : Int32) (h : XH) : qM_gets a0 x1 x2 h = xrun BM_gets (xfind []) 16 0 (List.zip [0, 1, 2] [.ref a0, .int x1, .int x2]) [] h := rfl
theorem tM_gets : XTo cX9_gets 3 RX9 0 2 48 0 [0, 1, 2] (wM_gets (qM_gets)) := by
  refine XTo.run (B := BM_gets) (cut := xfind []) kM_gets (xcuts_ok (fun _ h => absurd h List.not_mem_nil)) 16 (fun vs st h r hr => ?_)
  unfold wM_gets at hr
  split at hr
  · exact (eM_gets _ _ _ _).symm.trans hr
  · cases hr
def FM_gets : List Value → XH → XR := fun vs h => match vs with
  | [.ref a0, .int x1, .int x2] => qM_gets a0 x1 x2 h
  | _ => none
theorem SM_gets : XS yX9_gets cX9_gets 3 none (xrm 2 48) FM_gets := by
  refine XS.of (own := RX9) (by decide) rfl (rk := 0) rfl (tM_gets) (fun vs h r hr => ?_)
  unfold FM_gets at hr
  split at hr
  · exact ⟨rfl, Nat.le_of_ble_eq_true rfl, hr⟩
  · cases hr
