-- LineDiagram.isName(I)Z
def rD_isName : List (Nat × XRow) := [(0, (.iload_n 0, 1, 0, .null, [])),
  (1, (.ifCond .le 10, 4, 11, .null, [])),
  (4, (.iload_n 0, 5, 0, .null, [])),
  (5, (.bipush 30, 7, 0, .int (30 : Int32), [])),
  (7, (.ishr, 8, 0, .null, [])),
  (8, (.ifCond .eq 5, 11, 13, .null, [])),
  (11, (.iconst 0, 12, 0, .int (0 : Int32), [])),
  (12, (.ireturn, 13, 0, .null, [])),
  (13, (.iconst 0, 14, 0, .int (0 : Int32), [])),
  (14, (.istore_n 1, 15, 1, .null, [])),
  (15, (.iconst 0, 16, 0, .int (0 : Int32), [])),
  (16, (.istore_n 2, 17, 2, .null, [])),
  (17, (.iload_n 2, 18, 2, .null, [])),
  (18, (.bipush 6, 20, 0, .int (6 : Int32), [])),
  (20, (.if_icmp .ge 49, 23, 69, .null, [])),
  (23, (.iload_n 0, 24, 0, .null, [])),
  (24, (.iload_n 2, 25, 2, .null, [])),
  (25, (.invokestatic 346, 28, 346, .null, [])),
  (28, (.istore_n 3, 29, 3, .null, [])),
  (29, (.iload_n 3, 30, 3, .null, [])),
  (30, (.bipush 26, 32, 0, .int (26 : Int32), [])),
  (32, (.if_icmp .gt 19, 35, 51, .null, [])),
  (35, (.iload_n 1, 36, 1, .null, [])),
  (36, (.ifCond .eq 7, 39, 43, .null, [])),
  (39, (.iload_n 3, 40, 3, .null, [])),
  (40, (.ifCond .ne 11, 43, 51, .null, [])),
  (43, (.iload_n 2, 44, 2, .null, [])),
  (44, (.ifCond .ne 9, 47, 53, .null, [])),
  (47, (.iload_n 3, 48, 3, .null, [])),
  (48, (.ifCond .ne 5, 51, 53, .null, [])),
  (51, (.iconst 0, 52, 0, .int (0 : Int32), [])),
  (52, (.ireturn, 53, 0, .null, [])),
  (53, (.iload_n 3, 54, 3, .null, [])),
  (54, (.ifCond .ne 7, 57, 61, .null, [])),
  (57, (.iconst 1, 58, 0, .int (1 : Int32), [])),
  (58, (.goto 4, 61, 62, .null, [])),
  (61, (.iconst 0, 62, 0, .int (0 : Int32), [])),
  (62, (.istore_n 1, 63, 1, .null, [])),
  (63, (.iinc 2 1, 66, 2, .int (1 : Int32), [])),
  (66, (.goto (-49), 69, 17, .null, [])),
  (69, (.iconst 1, 70, 0, .int (1 : Int32), [])),
  (70, (.ireturn, 71, 0, .null, []))]
def mD_isName : List (Nat × XM) := [(346, (2, 1, none, FD_letterOf))]
abbrev BD_isName : XB := (rD_isName, XFT_D, mD_isName, 6, XST_D)
set_option maxRecDepth 100000 in
theorem kD_isName : XOK BD_isName cX8_isName 4 RX8 2 41 := xok_of (cps := []) (K := XKT_D) (by decide +kernel) XKT_D_ok (fun _ h => absurd h List.not_mem_nil) XFT_D_ok (List.forall_mem_cons.mpr ⟨⟨_, _, _, _, _, _, SD_letterOf, Nat.le_of_ble_eq_true rfl, Nat.le_of_ble_eq_true rfl, cdD_letterOf, lkD_346, imD_letterOf, inD_letterOf, pmD_letterOf⟩, fun _ h => absurd h List.not_mem_nil⟩) XST_D_ok
def wD_isName_53 (f : Int32 → Int32 → Int32 → XH → XR) : List Value → List Value → XH → XR := fun vs st h => match vs, st with
  | [.int x0, .int x2, .int x3], [] => f x0 x2 x3 h
  | _, _ => none
def wD_isName_43 (f : Int32 → Int32 → Int32 → XH → XR) : List Value → List Value → XH → XR := fun vs st h => match vs, st with
  | [.int x0, .int x2, .int x3], [] => f x0 x2 x3 h
  | _, _ => none
def wD_isName_17 (f : Int32 → Int32 → Int32 → XH → XR) : List Value → List Value → XH → XR := fun vs st h => match vs, st with
  | [.int x0, .int x1, .int x2], [] => f x0 x1 x2 h
  | _, _ => none
def wD_isName (f : Int32 → XH → XR) : List Value → List Value → XH → XR := fun vs st h => match vs, st with
  | [.int x0], [] => f x0 h
  | _, _ => none
set_option maxRecDepth 100000 in
theorem eD_isName_53 (k17 : Int32 → Int32 → Int32 → XH → XR) (x0 : Int32) (x2 : Int32) (x3 : Int32) (h : XH) : qD_isName_53 k17 x0 x2 x3 h = xrun BD_isName (xfind [(17, ([0, 1, 2], wD_isName_17 (k17)))]) 45 53 (List.zip [0, 2, 3] [.int x0, .int x2, .int x3]) [] h := rfl
theorem tD_isName_53 {k17 : Int32 → Int32 → Int32 → XH → XR} (hk17 : XTo cX8_isName 4 RX8 6 2 41 17 [0, 1, 2] (wD_isName_17 k17)) : XTo cX8_isName 4 RX8 6 2 41 53 [0, 2, 3] (wD_isName_53 (qD_isName_53 k17)) := by
  refine XTo.run (B := BD_isName) (cut := xfind [(17, ([0, 1, 2], wD_isName_17 (k17)))]) kD_isName (xcuts_ok (List.forall_mem_cons.mpr ⟨hk17, fun _ h => absurd h List.not_mem_nil⟩)) 45 (fun vs st h r hr => ?_)
  unfold wD_isName_53 at hr
  split at hr
  · exact (eD_isName_53 k17 _ _ _ _).symm.trans hr
  · cases hr
set_option maxRecDepth 100000 in
theorem eD_isName_43 (k17 : Int32 → Int32 → Int32 → XH → XR) (x0 : Int32) (x2 : Int32) (x3 : Int32) (h : XH) : qD_isName_43 k17 x0 x2 x3 h = xrun BD_isName (xfind [(53, ([0, 2, 3], wD_isName_53 (qD_isName_53 k17)))]) 45 43 (List.zip [0, 2, 3] [.int x0, .int x2, .int x3]) [] h := rfl
theorem tD_isName_43 {k17 : Int32 → Int32 → Int32 → XH → XR} (hk17 : XTo cX8_isName 4 RX8 6 2 41 17 [0, 1, 2] (wD_isName_17 k17)) : XTo cX8_isName 4 RX8 6 2 41 43 [0, 2, 3] (wD_isName_43 (qD_isName_43 k17)) := by
  refine XTo.run (B := BD_isName) (cut := xfind [(53, ([0, 2, 3], wD_isName_53 (qD_isName_53 k17)))]) kD_isName (xcuts_ok (List.forall_mem_cons.mpr ⟨tD_isName_53 hk17, fun _ h => absurd h List.not_mem_nil⟩)) 45 (fun vs st h r hr => ?_)
  unfold wD_isName_43 at hr
  split at hr
  · exact (eD_isName_43 k17 _ _ _ _).symm.trans hr
  · cases hr
set_option maxRecDepth 100000 in
theorem eD_isName_17_b (k17 : Int32 → Int32 → Int32 → XH → XR) (x0 : Int32) (x1 : Int32) (x2 : Int32) (h : XH) : qD_isName_17_b k17 x0 x1 x2 h = xrun BD_isName (xfind [(43, ([0, 2, 3], wD_isName_43 (qD_isName_43 k17)))]) 45 17 (List.zip [0, 1, 2] [.int x0, .int x1, .int x2]) [] h := rfl
theorem tD_isName_17_b {k17 : Int32 → Int32 → Int32 → XH → XR} (hk17 : XTo cX8_isName 4 RX8 6 2 41 17 [0, 1, 2] (wD_isName_17 k17)) : XTo cX8_isName 4 RX8 6 2 41 17 [0, 1, 2] (wD_isName_17 (qD_isName_17_b k17)) := by
  refine XTo.run (B := BD_isName) (cut := xfind [(43, ([0, 2, 3], wD_isName_43 (qD_isName_43 k17)))]) kD_isName (xcuts_ok (List.forall_mem_cons.mpr ⟨tD_isName_43 hk17, fun _ h => absurd h List.not_mem_nil⟩)) 45 (fun vs st h r hr => ?_)
  unfold wD_isName_17 at hr
  split at hr
  · exact (eD_isName_17_b k17 _ _ _ _).symm.trans hr
  · cases hr
theorem tD_isName_17 : ∀ n : Nat, XTo cX8_isName 4 RX8 6 2 41 17 [0, 1, 2] (wD_isName_17 (qD_isName_17 n)) := by
  intro n
  induction n with
  | zero =>
    refine XTo.none fun vs st h => ?_
    unfold wD_isName_17
    split <;> rfl
  | succ n ih => exact tD_isName_17_b  ih
set_option maxRecDepth 100000 in
theorem eD_isName (x0 : Int32) (h : XH) : qD_isName x0 h = xrun BD_isName (xfind [(17, ([0, 1, 2], wD_isName_17 (qD_isName_17 LF)))]) 45 0 (List.zip [0] [.int x0]) [] h := rfl
theorem tD_isName : XTo cX8_isName 4 RX8 6 2 41 0 [0] (wD_isName (qD_isName)) := by
  refine XTo.run (B := BD_isName) (cut := xfind [(17, ([0, 1, 2], wD_isName_17 (qD_isName_17 LF)))]) kD_isName (xcuts_ok (List.forall_mem_cons.mpr ⟨tD_isName_17 LF, fun _ h => absurd h List.not_mem_nil⟩)) 45 (fun vs st h r hr => ?_)
  unfold wD_isName at hr
  split at hr
  · exact (eD_isName _ _).symm.trans hr
  · cases hr
def FD_isName : List Value → XH → XR := fun vs h => match vs with
  | [.int x0] => qD_isName x0 h
  | _ => none
theorem SD_isName : XS yX8_isName cX8_isName 4 (some .boolean) (xrm 2 41) FD_isName := by
  refine XS.of (own := RX8) (by decide) rfl (rk := 6) rfl (tD_isName) (fun vs h r hr => ?_)
  unfold FD_isName at hr
  split at hr
  · exact ⟨rfl, Nat.le_of_ble_eq_true rfl, hr⟩
  · cases hr
-- LineDiagram.named(I)I
def rD_named : List (Nat × XRow) := [(0, (.iload_n 1, 1, 1, .null, [])),
  (1, (.invokestatic 330, 4, 330, .null, [])),
  (4, (.ifCond .ne 5, 7, 9, .null, [])),
  (7, (.iconst (-1), 8, 0, .int (-1 : Int32), [])),
  (8, (.ireturn, 9, 0, .null, [])),
  (9, (.aload_n 0, 10, 0, .null, [])),
  (10, (.getfield 29, 13, 29, .null, [])),
  (13, (.iload_n 1, 14, 1, .null, [])),
  (14, (.invokevirtual 333, 17, 333, .null, [])),
  (17, (.istore_n 2, 18, 2, .null, [])),
  (18, (.iload_n 2, 19, 2, .null, [])),
  (19, (.ifCond .ge 8, 22, 27, .null, [])),
  (22, (.bipush (-2), 24, 0, .int (-2 : Int32), [])),
  (24, (.goto 4, 27, 28, .null, [])),
  (27, (.iload_n 2, 28, 2, .null, [])),
  (28, (.ireturn, 29, 0, .null, []))]
def mD_named : List (Nat × XM) := [(330, (1, 1, none, FD_isName)), (333, (2, 1, some 5, FP_lineNamed))]
abbrev BD_named : XB := (rD_named, XFT_D, mD_named, 1, XST_D)
set_option maxRecDepth 100000 in
theorem kD_named : XOK BD_named cX8_named 3 RX8 3 64 := xok_of (cps := []) (K := XKT_D) (by decide +kernel) XKT_D_ok (fun _ h => absurd h List.not_mem_nil) XFT_D_ok (List.forall_mem_cons.mpr ⟨⟨_, _, _, _, _, _, SD_isName, Nat.le_of_ble_eq_true rfl, Nat.le_of_ble_eq_true rfl, cdD_isName, lkD_330, imD_isName, inD_isName, pmD_isName⟩, List.forall_mem_cons.mpr ⟨⟨_, _, _, _, _, _, _, SP_lineNamed, rfl, rfl, Nat.le_of_ble_eq_true rfl, Nat.le_of_ble_eq_true rfl, cdP_lineNamed, lkD_333, imP_lineNamed, slP_lineNamed, inP_lineNamed, pmP_lineNamed⟩, fun _ h => absurd h List.not_mem_nil⟩⟩) XST_D_ok
def wD_named (f : Nat → Int32 → XH → XR) : List Value → List Value → XH → XR := fun vs st h => match vs, st with
  | [.ref a0, .int x1], [] => f a0 x1 h
  | _, _ => none
set_option maxRecDepth 100000 in
theorem eD_named (a0 : Nat) (x1 : Int32) (h : XH) : qD_named a0 x1 h = xrun BD_named (xfind []) 19 0 (List.zip [0, 1] [.ref a0, .int x1]) [] h := rfl
theorem tD_named : XTo cX8_named 3 RX8 1 3 64 0 [0, 1] (wD_named (qD_named)) := by
  refine XTo.run (B := BD_named) (cut := xfind []) kD_named (xcuts_ok (fun _ h => absurd h List.not_mem_nil)) 19 (fun vs st h r hr => ?_)
  unfold wD_named at hr
  split at hr
  · exact (eD_named _ _ _).symm.trans hr
  · cases hr
def FD_named : List Value → XH → XR := fun vs h => match vs with
  | [.ref a0, .int x1] => qD_named a0 x1 h
  | _ => none
theorem SD_named : XS yX8_named cX8_named 3 (some .int) (xrm 3 64) FD_named := by
  refine XS.of (own := RX8) (by decide) rfl (rk := 1) rfl (tD_named) (fun vs h r hr => ?_)
  unfold FD_named at hr
  split at hr
  · exact ⟨rfl, Nat.le_of_ble_eq_true rfl, hr⟩
  · cases hr
-- LineDiagramModel.isName(I)Z
def rM_isName : List (Nat × XRow) := [(0, (.iconst 0, 1, 0, .int (0 : Int32), [])),
  (1, (.istore_n 1, 2, 1, .null, [])),
  (2, (.iload_n 0, 3, 0, .null, [])),
  (3, (.bipush 25, 5, 0, .int (25 : Int32), [])),
  (5, (.ishr, 6, 0, .null, [])),
  (6, (.ifCond .le 14, 9, 20, .null, [])),
  (9, (.iload_n 0, 10, 0, .null, [])),
  (10, (.bipush 30, 12, 0, .int (30 : Int32), [])),
  (12, (.ishr, 13, 0, .null, [])),
  (13, (.ifCond .ne 7, 16, 20, .null, [])),
  (16, (.iconst 1, 17, 0, .int (1 : Int32), [])),
  (17, (.goto 4, 20, 21, .null, [])),
  (20, (.iconst 0, 21, 0, .int (0 : Int32), [])),
  (21, (.istore_n 2, 22, 2, .null, [])),
  (22, (.bipush 25, 24, 0, .int (25 : Int32), [])),
  (24, (.istore_n 3, 25, 3, .null, [])),
  (25, (.iload_n 3, 26, 3, .null, [])),
  (26, (.ifCond .lt 58, 29, 84, .null, [])),
  (29, (.iload_n 0, 30, 0, .null, [])),
  (30, (.iload_n 3, 31, 3, .null, [])),
  (31, (.ishr, 32, 0, .null, [])),
  (32, (.bipush 31, 34, 0, .int (31 : Int32), [])),
  (34, (.iand, 35, 0, .null, [])),
  (35, (.istore 4, 37, 4, .null, [])),
  (37, (.iload_n 2, 38, 2, .null, [])),
  (38, (.ifCond .eq 23, 41, 61, .null, [])),
  (41, (.iload 4, 43, 4, .null, [])),
  (43, (.bipush 27, 45, 0, .int (27 : Int32), [])),
  (45, (.if_icmp .ge 16, 48, 61, .null, [])),
  (48, (.iload_n 1, 49, 1, .null, [])),
  (49, (.ifCond .eq 8, 52, 57, .null, [])),
  (52, (.iload 4, 54, 4, .null, [])),
  (54, (.ifCond .gt 7, 57, 61, .null, [])),
  (57, (.iconst 1, 58, 0, .int (1 : Int32), [])),
  (58, (.goto 4, 61, 62, .null, [])),
  (61, (.iconst 0, 62, 0, .int (0 : Int32), [])),
  (62, (.istore_n 2, 63, 2, .null, [])),
  (63, (.iload_n 1, 64, 1, .null, [])),
  (64, (.ifCond .ne 8, 67, 72, .null, [])),
  (67, (.iload 4, 69, 4, .null, [])),
  (69, (.ifCond .ne 7, 72, 76, .null, [])),
  (72, (.iconst 1, 73, 0, .int (1 : Int32), [])),
  (73, (.goto 4, 76, 77, .null, [])),
  (76, (.iconst 0, 77, 0, .int (0 : Int32), [])),
  (77, (.istore_n 1, 78, 1, .null, [])),
  (78, (.iinc 3 (-5), 81, 3, .int (-5 : Int32), [])),
  (81, (.goto (-56), 84, 25, .null, [])),
  (84, (.iload_n 2, 85, 2, .null, [])),
  (85, (.ireturn, 86, 0, .null, []))]
def mM_isName : List (Nat × XM) := []
abbrev BM_isName : XB := (rM_isName, XFT_M, mM_isName, 6, XST_M)
set_option maxRecDepth 100000 in
theorem kM_isName : XOK BM_isName cX9_isName 5 RX9 0 0 := xok_of (cps := []) (K := XKT_M) (by decide +kernel) XKT_M_ok (fun _ h => absurd h List.not_mem_nil) XFT_M_ok (fun _ h => absurd h List.not_mem_nil) XST_M_ok
def wM_isName_72 (f : Int32 → Int32 → Int32 → XH → XR) : List Value → List Value → XH → XR := fun vs st h => match vs, st with
  | [.int x0, .int x2, .int x3], [] => f x0 x2 x3 h
  | _, _ => none
def wM_isName_62 (f : Int32 → Int32 → Int32 → Int32 → Int32 → XH → XR) : List Value → List Value → XH → XR := fun vs st h => match vs, st with
  | [.int x0, .int x1, .int x3, .int x4], [.int s0] => f x0 x1 x3 x4 s0 h
  | _, _ => none
def wM_isName_57 (f : Int32 → Int32 → Int32 → Int32 → XH → XR) : List Value → List Value → XH → XR := fun vs st h => match vs, st with
  | [.int x0, .int x1, .int x3, .int x4], [] => f x0 x1 x3 x4 h
  | _, _ => none
def wM_isName_61 (f : Int32 → Int32 → Int32 → Int32 → XH → XR) : List Value → List Value → XH → XR := fun vs st h => match vs, st with
  | [.int x0, .int x1, .int x3, .int x4], [] => f x0 x1 x3 x4 h
  | _, _ => none
def wM_isName_25 (f : Int32 → Int32 → Int32 → Int32 → XH → XR) : List Value → List Value → XH → XR := fun vs st h => match vs, st with
  | [.int x0, .int x1, .int x2, .int x3], [] => f x0 x1 x2 x3 h
  | _, _ => none
def wM_isName (f : Int32 → XH → XR) : List Value → List Value → XH → XR := fun vs st h => match vs, st with
  | [.int x0], [] => f x0 h
  | _, _ => none
set_option maxRecDepth 100000 in
theorem eM_isName_72 (k25 : Int32 → Int32 → Int32 → Int32 → XH → XR) (x0 : Int32) (x2 : Int32) (x3 : Int32) (h : XH) : qM_isName_72 k25 x0 x2 x3 h = xrun BM_isName (xfind [(25, ([0, 1, 2, 3], wM_isName_25 (k25)))]) 52 72 (List.zip [0, 2, 3] [.int x0, .int x2, .int x3]) [] h := rfl
theorem tM_isName_72 {k25 : Int32 → Int32 → Int32 → Int32 → XH → XR} (hk25 : XTo cX9_isName 5 RX9 6 0 0 25 [0, 1, 2, 3] (wM_isName_25 k25)) : XTo cX9_isName 5 RX9 6 0 0 72 [0, 2, 3] (wM_isName_72 (qM_isName_72 k25)) := by
  refine XTo.run (B := BM_isName) (cut := xfind [(25, ([0, 1, 2, 3], wM_isName_25 (k25)))]) kM_isName (xcuts_ok (List.forall_mem_cons.mpr ⟨hk25, fun _ h => absurd h List.not_mem_nil⟩)) 52 (fun vs st h r hr => ?_)
  unfold wM_isName_72 at hr
  split at hr
  · exact (eM_isName_72 k25 _ _ _ _).symm.trans hr
  · cases hr
set_option maxRecDepth 100000 in
theorem eM_isName_62 (k25 : Int32 → Int32 → Int32 → Int32 → XH → XR) (x0 : Int32) (x1 : Int32) (x3 : Int32) (x4 : Int32) (s0 : Int32) (h : XH) : qM_isName_62 k25 x0 x1 x3 x4 s0 h = xrun BM_isName (xfind [(25, ([0, 1, 2, 3], wM_isName_25 (k25))), (72, ([0, 2, 3], wM_isName_72 (qM_isName_72 k25)))]) 52 62 (List.zip [0, 1, 3, 4] [.int x0, .int x1, .int x3, .int x4]) [.int s0] h := rfl
theorem tM_isName_62 {k25 : Int32 → Int32 → Int32 → Int32 → XH → XR} (hk25 : XTo cX9_isName 5 RX9 6 0 0 25 [0, 1, 2, 3] (wM_isName_25 k25)) : XTo cX9_isName 5 RX9 6 0 0 62 [0, 1, 3, 4] (wM_isName_62 (qM_isName_62 k25)) := by
  refine XTo.run (B := BM_isName) (cut := xfind [(25, ([0, 1, 2, 3], wM_isName_25 (k25))), (72, ([0, 2, 3], wM_isName_72 (qM_isName_72 k25)))]) kM_isName (xcuts_ok (List.forall_mem_cons.mpr ⟨hk25, List.forall_mem_cons.mpr ⟨tM_isName_72 hk25, fun _ h => absurd h List.not_mem_nil⟩⟩)) 52 (fun vs st h r hr => ?_)
  unfold wM_isName_62 at hr
  split at hr
  · exact (eM_isName_62 k25 _ _ _ _ _ _).symm.trans hr
  · cases hr
set_option maxRecDepth 100000 in
theorem eM_isName_57 (k25 : Int32 → Int32 → Int32 → Int32 → XH → XR) (x0 : Int32) (x1 : Int32) (x3 : Int32) (x4 : Int32) (h : XH) : qM_isName_57 k25 x0 x1 x3 x4 h = xrun BM_isName (xfind [(62, ([0, 1, 3, 4], wM_isName_62 (qM_isName_62 k25)))]) 52 57 (List.zip [0, 1, 3, 4] [.int x0, .int x1, .int x3, .int x4]) [] h := rfl
theorem tM_isName_57 {k25 : Int32 → Int32 → Int32 → Int32 → XH → XR} (hk25 : XTo cX9_isName 5 RX9 6 0 0 25 [0, 1, 2, 3] (wM_isName_25 k25)) : XTo cX9_isName 5 RX9 6 0 0 57 [0, 1, 3, 4] (wM_isName_57 (qM_isName_57 k25)) := by
  refine XTo.run (B := BM_isName) (cut := xfind [(62, ([0, 1, 3, 4], wM_isName_62 (qM_isName_62 k25)))]) kM_isName (xcuts_ok (List.forall_mem_cons.mpr ⟨tM_isName_62 hk25, fun _ h => absurd h List.not_mem_nil⟩)) 52 (fun vs st h r hr => ?_)
  unfold wM_isName_57 at hr
  split at hr
  · exact (eM_isName_57 k25 _ _ _ _ _).symm.trans hr
  · cases hr
set_option maxRecDepth 100000 in
theorem eM_isName_61 (k25 : Int32 → Int32 → Int32 → Int32 → XH → XR) (x0 : Int32) (x1 : Int32) (x3 : Int32) (x4 : Int32) (h : XH) : qM_isName_61 k25 x0 x1 x3 x4 h = xrun BM_isName (xfind [(62, ([0, 1, 3, 4], wM_isName_62 (qM_isName_62 k25)))]) 52 61 (List.zip [0, 1, 3, 4] [.int x0, .int x1, .int x3, .int x4]) [] h := rfl
theorem tM_isName_61 {k25 : Int32 → Int32 → Int32 → Int32 → XH → XR} (hk25 : XTo cX9_isName 5 RX9 6 0 0 25 [0, 1, 2, 3] (wM_isName_25 k25)) : XTo cX9_isName 5 RX9 6 0 0 61 [0, 1, 3, 4] (wM_isName_61 (qM_isName_61 k25)) := by
  refine XTo.run (B := BM_isName) (cut := xfind [(62, ([0, 1, 3, 4], wM_isName_62 (qM_isName_62 k25)))]) kM_isName (xcuts_ok (List.forall_mem_cons.mpr ⟨tM_isName_62 hk25, fun _ h => absurd h List.not_mem_nil⟩)) 52 (fun vs st h r hr => ?_)
  unfold wM_isName_61 at hr
  split at hr
  · exact (eM_isName_61 k25 _ _ _ _ _).symm.trans hr
  · cases hr
set_option maxRecDepth 100000 in
theorem eM_isName_25_b (k25 : Int32 → Int32 → Int32 → Int32 → XH → XR) (x0 : Int32) (x1 : Int32) (x2 : Int32) (x3 : Int32) (h : XH) : qM_isName_25_b k25 x0 x1 x2 x3 h = xrun BM_isName (xfind [(57, ([0, 1, 3, 4], wM_isName_57 (qM_isName_57 k25))), (61, ([0, 1, 3, 4], wM_isName_61 (qM_isName_61 k25)))]) 52 25 (List.zip [0, 1, 2, 3] [.int x0, .int x1, .int x2, .int x3]) [] h := rfl
theorem tM_isName_25_b {k25 : Int32 → Int32 → Int32 → Int32 → XH → XR} (hk25 : XTo cX9_isName 5 RX9 6 0 0 25 [0, 1, 2, 3] (wM_isName_25 k25)) : XTo cX9_isName 5 RX9 6 0 0 25 [0, 1, 2, 3] (wM_isName_25 (qM_isName_25_b k25)) := by
  refine XTo.run (B := BM_isName) (cut := xfind [(57, ([0, 1, 3, 4], wM_isName_57 (qM_isName_57 k25))), (61, ([0, 1, 3, 4], wM_isName_61 (qM_isName_61 k25)))]) kM_isName (xcuts_ok (List.forall_mem_cons.mpr ⟨tM_isName_57 hk25, List.forall_mem_cons.mpr ⟨tM_isName_61 hk25, fun _ h => absurd h List.not_mem_nil⟩⟩)) 52 (fun vs st h r hr => ?_)
  unfold wM_isName_25 at hr
  split at hr
  · exact (eM_isName_25_b k25 _ _ _ _ _).symm.trans hr
  · cases hr
theorem tM_isName_25 : ∀ n : Nat, XTo cX9_isName 5 RX9 6 0 0 25 [0, 1, 2, 3] (wM_isName_25 (qM_isName_25 n)) := by
  intro n
  induction n with
  | zero =>
    refine XTo.none fun vs st h => ?_
    unfold wM_isName_25
    split <;> rfl
  | succ n ih => exact tM_isName_25_b  ih
set_option maxRecDepth 100000 in
theorem eM_isName (x0 : Int32) (h : XH) : qM_isName x0 h = xrun BM_isName (xfind [(25, ([0, 1, 2, 3], wM_isName_25 (qM_isName_25 LF)))]) 52 0 (List.zip [0] [.int x0]) [] h := rfl
theorem tM_isName : XTo cX9_isName 5 RX9 6 0 0 0 [0] (wM_isName (qM_isName)) := by
  refine XTo.run (B := BM_isName) (cut := xfind [(25, ([0, 1, 2, 3], wM_isName_25 (qM_isName_25 LF)))]) kM_isName (xcuts_ok (List.forall_mem_cons.mpr ⟨tM_isName_25 LF, fun _ h => absurd h List.not_mem_nil⟩)) 52 (fun vs st h r hr => ?_)
  unfold wM_isName at hr
  split at hr
  · exact (eM_isName _ _).symm.trans hr
  · cases hr
def FM_isName : List Value → XH → XR := fun vs h => match vs with
  | [.int x0] => qM_isName x0 h
  | _ => none
theorem SM_isName : XS yX9_isName cX9_isName 5 (some .boolean) (xrm 0 0) FM_isName := by
  refine XS.of (own := RX9) (by decide) rfl (rk := 6) rfl (tM_isName) (fun vs h r hr => ?_)
  unfold FM_isName at hr
  split at hr
  · exact ⟨rfl, Nat.le_of_ble_eq_true rfl, hr⟩
  · cases hr
-- LineDiagramModel.named(I)I
def rM_named : List (Nat × XRow) := [(0, (.iload_n 1, 1, 1, .null, [])),
  (1, (.invokestatic 470, 4, 470, .null, [])),
  (4, (.ifCond .ne 5, 7, 9, .null, [])),
  (7, (.iconst (-1), 8, 0, .int (-1 : Int32), [])),
  (8, (.ireturn, 9, 0, .null, [])),
  (9, (.iconst 0, 10, 0, .int (0 : Int32), [])),
  (10, (.istore_n 2, 11, 2, .null, [])),
  (11, (.iload_n 2, 12, 2, .null, [])),
  (12, (.aload_n 0, 13, 0, .null, [])),
  (13, (.getfield 100, 16, 100, .null, [])),
  (16, (.if_icmp .ge 21, 19, 37, .null, [])),
  (19, (.aload_n 0, 20, 0, .null, [])),
  (20, (.getfield 17, 23, 17, .null, [])),
  (23, (.iload_n 2, 24, 2, .null, [])),
  (24, (.iaload, 25, 0, .null, [])),
  (25, (.iload_n 1, 26, 1, .null, [])),
  (26, (.if_icmp .ne 5, 29, 31, .null, [])),
  (29, (.iload_n 2, 30, 2, .null, [])),
  (30, (.ireturn, 31, 0, .null, [])),
  (31, (.iinc 2 1, 34, 2, .int (1 : Int32), [])),
  (34, (.goto (-23), 37, 11, .null, [])),
  (37, (.bipush (-2), 39, 0, .int (-2 : Int32), [])),
  (39, (.ireturn, 40, 0, .null, []))]
def mM_named : List (Nat × XM) := [(470, (1, 1, none, FM_isName))]
abbrev BM_named : XB := (rM_named, XFT_M, mM_named, 1, XST_M)
set_option maxRecDepth 100000 in
theorem kM_named : XOK BM_named cX9_named 3 RX9 1 24 := xok_of (cps := []) (K := XKT_M) (by decide +kernel) XKT_M_ok (fun _ h => absurd h List.not_mem_nil) XFT_M_ok (List.forall_mem_cons.mpr ⟨⟨_, _, _, _, _, _, SM_isName, Nat.le_of_ble_eq_true rfl, Nat.le_of_ble_eq_true rfl, cdM_isName, lkM_470, imM_isName, inM_isName, pmM_isName⟩, fun _ h => absurd h List.not_mem_nil⟩) XST_M_ok
def wM_named_11 (f : Nat → Int32 → Int32 → XH → XR) : List Value → List Value → XH → XR := fun vs st h => match vs, st with
  | [.ref a0, .int x1, .int x2], [] => f a0 x1 x2 h
  | _, _ => none
def wM_named (f : Nat → Int32 → XH → XR) : List Value → List Value → XH → XR := fun vs st h => match vs, st with
  | [.ref a0, .int x1], [] => f a0 x1 h
  | _, _ => none
set_option maxRecDepth 100000 in
theorem eM_named_11_b (k11 : Nat → Int32 → Int32 → XH → XR) (a0 : Nat) (x1 : Int32) (x2 : Int32) (h : XH) : qM_named_11_b k11 a0 x1 x2 h = xrun BM_named (xfind [(11, ([0, 1, 2], wM_named_11 (k11)))]) 26 11 (List.zip [0, 1, 2] [.ref a0, .int x1, .int x2]) [] h := rfl
theorem tM_named_11_b {k11 : Nat → Int32 → Int32 → XH → XR} (hk11 : XTo cX9_named 3 RX9 1 1 24 11 [0, 1, 2] (wM_named_11 k11)) : XTo cX9_named 3 RX9 1 1 24 11 [0, 1, 2] (wM_named_11 (qM_named_11_b k11)) := by
  refine XTo.run (B := BM_named) (cut := xfind [(11, ([0, 1, 2], wM_named_11 (k11)))]) kM_named (xcuts_ok (List.forall_mem_cons.mpr ⟨hk11, fun _ h => absurd h List.not_mem_nil⟩)) 26 (fun vs st h r hr => ?_)
  unfold wM_named_11 at hr
  split at hr
  · exact (eM_named_11_b k11 _ _ _ _).symm.trans hr
  · cases hr
theorem tM_named_11 : ∀ n : Nat, XTo cX9_named 3 RX9 1 1 24 11 [0, 1, 2] (wM_named_11 (qM_named_11 n)) := by
  intro n
  induction n with
  | zero =>
    refine XTo.none fun vs st h => ?_
    unfold wM_named_11
    split <;> rfl
  | succ n ih => exact tM_named_11_b  ih
set_option maxRecDepth 100000 in
theorem eM_named (a0 : Nat) (x1 : Int32) (h : XH) : qM_named a0 x1 h = xrun BM_named (xfind [(11, ([0, 1, 2], wM_named_11 (qM_named_11 LF)))]) 26 0 (List.zip [0, 1] [.ref a0, .int x1]) [] h := rfl
theorem tM_named : XTo cX9_named 3 RX9 1 1 24 0 [0, 1] (wM_named (qM_named)) := by
  refine XTo.run (B := BM_named) (cut := xfind [(11, ([0, 1, 2], wM_named_11 (qM_named_11 LF)))]) kM_named (xcuts_ok (List.forall_mem_cons.mpr ⟨tM_named_11 LF, fun _ h => absurd h List.not_mem_nil⟩)) 26 (fun vs st h r hr => ?_)
  unfold wM_named at hr
  split at hr
  · exact (eM_named _ _ _).symm.trans hr
  · cases hr
def FM_named : List Value → XH → XR := fun vs h => match vs with
  | [.ref a0, .int x1] => qM_named a0 x1 h
  | _ => none
theorem SM_named : XS yX9_named cX9_named 3 (some .int) (xrm 1 24) FM_named := by
  refine XS.of (own := RX9) (by decide) rfl (rk := 1) rfl (tM_named) (fun vs h r hr => ?_)
  unfold FM_named at hr
  split at hr
  · exact ⟨rfl, Nat.le_of_ble_eq_true rfl, hr⟩
  · cases hr
-- LineDiagram.pictureLength()I
def rD_pictureLength : List (Nat × XRow) := [(0, (.aload_n 0, 1, 0, .null, [])),
  (1, (.getfield 29, 4, 29, .null, [])),
  (4, (.getfield 209, 7, 209, .null, [])),
  (7, (.iconst 1, 8, 0, .int (1 : Int32), [])),
  (8, (.iadd, 9, 0, .null, [])),
  (9, (.aload_n 0, 10, 0, .null, [])),
  (10, (.getfield 29, 13, 29, .null, [])),
  (13, (.getfield 212, 16, 212, .null, [])),
  (16, (.imul, 17, 0, .null, [])),
  (17, (.ireturn, 18, 0, .null, []))]
def mD_pictureLength : List (Nat × XM) := []
abbrev BD_pictureLength : XB := (rD_pictureLength, XFT_D, mD_pictureLength, 1, XST_D)
set_option maxRecDepth 100000 in
theorem kD_pictureLength : XOK BD_pictureLength cX8_pictureLength 1 RX8 0 0 := xok_of (cps := []) (K := XKT_D) (by decide +kernel) XKT_D_ok (fun _ h => absurd h List.not_mem_nil) XFT_D_ok (fun _ h => absurd h List.not_mem_nil) XST_D_ok
def wD_pictureLength (f : Nat → XH → XR) : List Value → List Value → XH → XR := fun vs st h => match vs, st with
  | [.ref a0], [] => f a0 h
  | _, _ => none
set_option maxRecDepth 100000 in
theorem eD_pictureLength (a0 : Nat) (h : XH) : qD_pictureLength a0 h = xrun BD_pictureLength (xfind []) 13 0 (List.zip [0] [.ref a0]) [] h := rfl
theorem tD_pictureLength : XTo cX8_pictureLength 1 RX8 1 0 0 0 [0] (wD_pictureLength (qD_pictureLength)) := by
  refine XTo.run (B := BD_pictureLength) (cut := xfind []) kD_pictureLength (xcuts_ok (fun _ h => absurd h List.not_mem_nil)) 13 (fun vs st h r hr => ?_)
  unfold wD_pictureLength at hr
  split at hr
  · exact (eD_pictureLength _ _).symm.trans hr
  · cases hr
def FD_pictureLength : List Value → XH → XR := fun vs h => match vs with
  | [.ref a0] => qD_pictureLength a0 h
  | _ => none
theorem SD_pictureLength : XS yX8_pictureLength cX8_pictureLength 1 (some .int) (xrm 0 0) FD_pictureLength := by
  refine XS.of (own := RX8) (by decide) rfl (rk := 1) rfl (tD_pictureLength) (fun vs h r hr => ?_)
  unfold FD_pictureLength at hr
  split at hr
  · exact ⟨rfl, Nat.le_of_ble_eq_true rfl, hr⟩
  · cases hr
-- LineDiagramModel.says(I)V
def rM_says : List (Nat × XRow) := [(0, (.aload_n 0, 1, 0, .null, [])),
  (1, (.aload_n 0, 2, 0, .null, [])),
  (2, (.getfield 473, 5, 473, .null, [])),
  (5, (.aload_n 0, 6, 0, .null, [])),
  (6, (.getfield 476, 9, 476, .null, [])),
  (9, (.if_icmp .ne 7, 12, 16, .null, [])),
  (12, (.iload_n 1, 13, 1, .null, [])),
  (13, (.goto 7, 16, 20, .null, [])),
  (16, (.aload_n 0, 17, 0, .null, [])),
  (17, (.getfield 479, 20, 479, .null, [])),
  (20, (.putfield 479, 23, 479, .null, [])),
  (23, (.aload_n 0, 24, 0, .null, [])),
  (24, (.dup, 25, 0, .null, [])),
  (25, (.getfield 473, 28, 473, .null, [])),
  (28, (.iconst 1, 29, 0, .int (1 : Int32), [])),
  (29, (.iadd, 30, 0, .null, [])),
  (30, (.putfield 473, 33, 473, .null, [])),
  (33, (.return_, 34, 0, .null, []))]
def mM_says : List (Nat × XM) := []
abbrev BM_says : XB := (rM_says, XFT_M, mM_says, 0, XST_M)
set_option maxRecDepth 100000 in
theorem kM_says : XOK BM_says cX9_says 2 RX9 0 0 := xok_of (cps := []) (K := XKT_M) (by decide +kernel) XKT_M_ok (fun _ h => absurd h List.not_mem_nil) XFT_M_ok (fun _ h => absurd h List.not_mem_nil) XST_M_ok
def wM_says_20 (f : Nat → Int32 → Nat → XH → XR) : List Value → List Value → XH → XR := fun vs st h => match vs, st with
  | [.ref a0], [.int s0, .ref s1] => f a0 s0 s1 h
  | _, _ => none
def wM_says (f : Nat → Int32 → XH → XR) : List Value → List Value → XH → XR := fun vs st h => match vs, st with
  | [.ref a0, .int x1], [] => f a0 x1 h
  | _, _ => none
set_option maxRecDepth 100000 in
theorem eM_says_20 (a0 : Nat) (s0 : Int32) (s1 : Nat) (h : XH) : qM_says_20 a0 s0 s1 h = xrun BM_says (xfind []) 21 20 (List.zip [0] [.ref a0]) [.int s0, .ref s1] h := rfl
theorem tM_says_20 : XTo cX9_says 2 RX9 0 0 0 20 [0] (wM_says_20 (qM_says_20)) := by
  refine XTo.run (B := BM_says) (cut := xfind []) kM_says (xcuts_ok (fun _ h => absurd h List.not_mem_nil)) 21 (fun vs st h r hr => ?_)
  unfold wM_says_20 at hr
  split at hr
  · exact (eM_says_20 _ _ _ _).symm.trans hr
  · cases hr
set_option maxRecDepth 100000 in
theorem eM_says (a0 : Nat) (x1 : Int32) (h : XH) : qM_says a0 x1 h = xrun BM_says (xfind [(20, ([0], wM_says_20 (qM_says_20)))]) 21 0 (List.zip [0, 1] [.ref a0, .int x1]) [] h := rfl
theorem tM_says : XTo cX9_says 2 RX9 0 0 0 0 [0, 1] (wM_says (qM_says)) := by
  refine XTo.run (B := BM_says) (cut := xfind [(20, ([0], wM_says_20 (qM_says_20)))]) kM_says (xcuts_ok (List.forall_mem_cons.mpr ⟨tM_says_20, fun _ h => absurd h List.not_mem_nil⟩)) 21 (fun vs st h r hr => ?_)
  unfold wM_says at hr
  split at hr
  · exact (eM_says _ _ _).symm.trans hr
  · cases hr
def FM_says : List Value → XH → XR := fun vs h => match vs with
  | [.ref a0, .int x1] => qM_says a0 x1 h
  | _ => none
theorem SM_says : XS yX9_says cX9_says 2 none (xrm 0 0) FM_says := by
  refine XS.of (own := RX9) (by decide) rfl (rk := 0) rfl (tM_says) (fun vs h r hr => ?_)
  unfold FM_says at hr
  split at hr
  · exact ⟨rfl, Nat.le_of_ble_eq_true rfl, hr⟩
  · cases hr
-- LineDiagramModel.startsText(I)V
def rM_startsText : List (Nat × XRow) := [(0, (.aload_n 0, 1, 0, .null, [])),
  (1, (.iconst 0, 2, 0, .int (0 : Int32), [])),
  (2, (.putfield 473, 5, 473, .null, [])),
  (5, (.aload_n 0, 6, 0, .null, [])),
  (6, (.iload_n 1, 7, 1, .null, [])),
  (7, (.putfield 476, 10, 476, .null, [])),
  (10, (.aload_n 0, 11, 0, .null, [])),
  (11, (.bipush (-2), 13, 0, .int (-2 : Int32), [])),
  (13, (.putfield 479, 16, 479, .null, [])),
  (16, (.return_, 17, 0, .null, []))]
def mM_startsText : List (Nat × XM) := []
abbrev BM_startsText : XB := (rM_startsText, XFT_M, mM_startsText, 0, XST_M)
set_option maxRecDepth 100000 in
theorem kM_startsText : XOK BM_startsText cX9_startsText 2 RX9 0 0 := xok_of (cps := []) (K := XKT_M) (by decide +kernel) XKT_M_ok (fun _ h => absurd h List.not_mem_nil) XFT_M_ok (fun _ h => absurd h List.not_mem_nil) XST_M_ok
def wM_startsText (f : Nat → Int32 → XH → XR) : List Value → List Value → XH → XR := fun vs st h => match vs, st with
  | [.ref a0, .int x1], [] => f a0 x1 h
  | _, _ => none
set_option maxRecDepth 100000 in
theorem eM_startsText (a0 : Nat) (x1 : Int32) (h : XH) : qM_startsText a0 x1 h = xrun BM_startsText (xfind []) 13 0 (List.zip [0, 1] [.ref a0, .int x1]) [] h := rfl
theorem tM_startsText : XTo cX9_startsText 2 RX9 0 0 0 0 [0, 1] (wM_startsText (qM_startsText)) := by
  refine XTo.run (B := BM_startsText) (cut := xfind []) kM_startsText (xcuts_ok (fun _ h => absurd h List.not_mem_nil)) 13 (fun vs st h r hr => ?_)
  unfold wM_startsText at hr
  split at hr
  · exact (eM_startsText _ _ _).symm.trans hr
  · cases hr
def FM_startsText : List Value → XH → XR := fun vs h => match vs with
  | [.ref a0, .int x1] => qM_startsText a0 x1 h
  | _ => none
theorem SM_startsText : XS yX9_startsText cX9_startsText 2 none (xrm 0 0) FM_startsText := by
  refine XS.of (own := RX9) (by decide) rfl (rk := 0) rfl (tM_startsText) (fun vs h r hr => ?_)
  unfold FM_startsText at hr
  split at hr
  · exact ⟨rfl, Nat.le_of_ble_eq_true rfl, hr⟩
  · cases hr
-- LineDiagramModel.firstLineOn(I)I
def rM_firstLineOn : List (Nat × XRow) := [(0, (.iconst 0, 1, 0, .int (0 : Int32), [])),
  (1, (.istore_n 2, 2, 2, .null, [])),
  (2, (.aload_n 0, 3, 0, .null, [])),
  (3, (.getfield 43, 6, 43, .null, [])),
  (6, (.iload_n 1, 7, 1, .null, [])),
  (7, (.iaload, 8, 0, .null, [])),
  (8, (.iload_n 2, 9, 2, .null, [])),
  (9, (.invokestatic 401, 12, 401, .null, [])),
  (12, (.ifCond .ne 9, 15, 21, .null, [])),
  (15, (.iinc 2 1, 18, 2, .int (1 : Int32), [])),
  (18, (.goto (-16), 21, 2, .null, [])),
  (21, (.iload_n 2, 22, 2, .null, [])),
  (22, (.ireturn, 23, 0, .null, []))]
def mM_firstLineOn : List (Nat × XM) := [(401, (2, 1, none, FM_has))]
abbrev BM_firstLineOn : XB := (rM_firstLineOn, XFT_M, mM_firstLineOn, 1, XST_M)
set_option maxRecDepth 100000 in
theorem kM_firstLineOn : XOK BM_firstLineOn cX9_firstLineOn 3 RX9 1 21 := xok_of (cps := []) (K := XKT_M) (by decide +kernel) XKT_M_ok (fun _ h => absurd h List.not_mem_nil) XFT_M_ok (List.forall_mem_cons.mpr ⟨⟨_, _, _, _, _, _, SM_has, Nat.le_of_ble_eq_true rfl, Nat.le_of_ble_eq_true rfl, cdM_has, lkM_401, imM_has, inM_has, pmM_has⟩, fun _ h => absurd h List.not_mem_nil⟩) XST_M_ok
def wM_firstLineOn_2 (f : Nat → Int32 → Int32 → XH → XR) : List Value → List Value → XH → XR := fun vs st h => match vs, st with
  | [.ref a0, .int x1, .int x2], [] => f a0 x1 x2 h
  | _, _ => none
def wM_firstLineOn (f : Nat → Int32 → XH → XR) : List Value → List Value → XH → XR := fun vs st h => match vs, st with
  | [.ref a0, .int x1], [] => f a0 x1 h
  | _, _ => none
set_option maxRecDepth 100000 in
theorem eM_firstLineOn_2_b (k2 : Nat → Int32 → Int32 → XH → XR) (a0 : Nat) (x1 : Int32) (x2 : Int32) (h : XH) : qM_firstLineOn_2_b k2 a0 x1 x2 h = xrun BM_firstLineOn (xfind [(2, ([0, 1, 2], wM_firstLineOn_2 (k2)))]) 16 2 (List.zip [0, 1, 2] [.ref a0, .int x1, .int x2]) [] h := rfl
theorem tM_firstLineOn_2_b {k2 : Nat → Int32 → Int32 → XH → XR} (hk2 : XTo cX9_firstLineOn 3 RX9 1 1 21 2 [0, 1, 2] (wM_firstLineOn_2 k2)) : XTo cX9_firstLineOn 3 RX9 1 1 21 2 [0, 1, 2] (wM_firstLineOn_2 (qM_firstLineOn_2_b k2)) := by
  refine XTo.run (B := BM_firstLineOn) (cut := xfind [(2, ([0, 1, 2], wM_firstLineOn_2 (k2)))]) kM_firstLineOn (xcuts_ok (List.forall_mem_cons.mpr ⟨hk2, fun _ h => absurd h List.not_mem_nil⟩)) 16 (fun vs st h r hr => ?_)
  unfold wM_firstLineOn_2 at hr
  split at hr
  · exact (eM_firstLineOn_2_b k2 _ _ _ _).symm.trans hr
  · cases hr
theorem tM_firstLineOn_2 : ∀ n : Nat, XTo cX9_firstLineOn 3 RX9 1 1 21 2 [0, 1, 2] (wM_firstLineOn_2 (qM_firstLineOn_2 n)) := by
  intro n
  induction n with
  | zero =>
    refine XTo.none fun vs st h => ?_
    unfold wM_firstLineOn_2
    split <;> rfl
  | succ n ih => exact tM_firstLineOn_2_b  ih
set_option maxRecDepth 100000 in
theorem eM_firstLineOn (a0 : Nat) (x1 : Int32) (h : XH) : qM_firstLineOn a0 x1 h = xrun BM_firstLineOn (xfind [(2, ([0, 1, 2], wM_firstLineOn_2 (qM_firstLineOn_2 LF)))]) 16 0 (List.zip [0, 1] [.ref a0, .int x1]) [] h := rfl
theorem tM_firstLineOn : XTo cX9_firstLineOn 3 RX9 1 1 21 0 [0, 1] (wM_firstLineOn (qM_firstLineOn)) := by
  refine XTo.run (B := BM_firstLineOn) (cut := xfind [(2, ([0, 1, 2], wM_firstLineOn_2 (qM_firstLineOn_2 LF)))]) kM_firstLineOn (xcuts_ok (List.forall_mem_cons.mpr ⟨tM_firstLineOn_2 LF, fun _ h => absurd h List.not_mem_nil⟩)) 16 (fun vs st h r hr => ?_)
  unfold wM_firstLineOn at hr
  split at hr
  · exact (eM_firstLineOn _ _ _).symm.trans hr
  · cases hr
def FM_firstLineOn : List Value → XH → XR := fun vs h => match vs with
  | [.ref a0, .int x1] => qM_firstLineOn a0 x1 h
  | _ => none
theorem SM_firstLineOn : XS yX9_firstLineOn cX9_firstLineOn 3 (some .int) (xrm 1 21) FM_firstLineOn := by
  refine XS.of (own := RX9) (by decide) rfl (rk := 1) rfl (tM_firstLineOn) (fun vs h r hr => ?_)
  unfold FM_firstLineOn at hr
  split at hr
  · exact ⟨rfl, Nat.le_of_ble_eq_true rfl, hr⟩
  · cases hr
-- LineDiagramModel.signOf(I)I
def rM_signOf : List (Nat × XRow) := [(0, (.aload_n 0, 1, 0, .null, [])),
  (1, (.iload_n 1, 2, 1, .null, [])),
  (2, (.invokevirtual 414, 5, 414, .null, [])),
  (5, (.istore_n 2, 6, 2, .null, [])),
  (6, (.iload_n 2, 7, 2, .null, [])),
  (7, (.iconst 2, 8, 0, .int (2 : Int32), [])),
  (8, (.if_icmp .ne 25, 11, 33, .null, [])),
  (11, (.aload_n 0, 12, 0, .null, [])),
  (12, (.iload_n 1, 13, 1, .null, [])),
  (13, (.invokevirtual 398, 16, 398, .null, [])),
  (16, (.ifCond .eq 8, 19, 24, .null, [])),
  (19, (.bipush 43, 21, 0, .int (43 : Int32), [])),
  (21, (.goto 11, 24, 32, .null, [])),
  (24, (.bipush 48, 26, 0, .int (48 : Int32), [])),
  (26, (.aload_n 0, 27, 0, .null, [])),
  (27, (.iload_n 1, 28, 1, .null, [])),
  (28, (.invokevirtual 487, 31, 487, .null, [])),
  (31, (.iadd, 32, 0, .null, [])),
  (32, (.ireturn, 33, 0, .null, [])),
  (33, (.iload_n 2, 34, 2, .null, [])),
  (34, (.iconst 3, 35, 0, .int (3 : Int32), [])),
  (35, (.if_icmp .ne 8, 38, 43, .null, [])),
  (38, (.bipush 111, 40, 0, .int (111 : Int32), [])),
  (40, (.goto 15, 43, 55, .null, [])),
  (43, (.iload_n 2, 44, 2, .null, [])),
  (44, (.iconst 1, 45, 0, .int (1 : Int32), [])),
  (45, (.if_icmp .ne 8, 48, 53, .null, [])),
  (48, (.bipush 61, 50, 0, .int (61 : Int32), [])),
  (50, (.goto 5, 53, 55, .null, [])),
  (53, (.bipush 46, 55, 0, .int (46 : Int32), [])),
  (55, (.ireturn, 56, 0, .null, []))]
def mM_signOf : List (Nat × XM) := [(398, (2, 1, some 9, FM_isCrossing)), (414, (2, 1, some 9, FM_sortOf)), (487, (2, 1, some 9, FM_firstLineOn))]
abbrev BM_signOf : XB := (rM_signOf, XFT_M, mM_signOf, 1, XST_M)
set_option maxRecDepth 100000 in
theorem kM_signOf : XOK BM_signOf cX9_signOf 3 RX9 2 43 := xok_of (cps := []) (K := XKT_M) (by decide +kernel) XKT_M_ok (fun _ h => absurd h List.not_mem_nil) XFT_M_ok (List.forall_mem_cons.mpr ⟨⟨_, _, _, _, _, _, _, SM_isCrossing, rfl, rfl, Nat.le_of_ble_eq_true rfl, Nat.le_of_ble_eq_true rfl, cdM_isCrossing, lkM_398, imM_isCrossing, slM_isCrossing, inM_isCrossing, pmM_isCrossing⟩, List.forall_mem_cons.mpr ⟨⟨_, _, _, _, _, _, _, SM_sortOf, rfl, rfl, Nat.le_of_ble_eq_true rfl, Nat.le_of_ble_eq_true rfl, cdM_sortOf, lkM_414, imM_sortOf, slM_sortOf, inM_sortOf, pmM_sortOf⟩, List.forall_mem_cons.mpr ⟨⟨_, _, _, _, _, _, _, SM_firstLineOn, rfl, rfl, Nat.le_of_ble_eq_true rfl, Nat.le_of_ble_eq_true rfl, cdM_firstLineOn, lkM_487, imM_firstLineOn, slM_firstLineOn, inM_firstLineOn, pmM_firstLineOn⟩, fun _ h => absurd h List.not_mem_nil⟩⟩⟩) XST_M_ok
def wM_signOf (f : Nat → Int32 → XH → XR) : List Value → List Value → XH → XR := fun vs st h => match vs, st with
  | [.ref a0, .int x1], [] => f a0 x1 h
  | _, _ => none
set_option maxRecDepth 100000 in
theorem eM_signOf (a0 : Nat) (x1 : Int32) (h : XH) : qM_signOf a0 x1 h = xrun BM_signOf (xfind []) 34 0 (List.zip [0, 1] [.ref a0, .int x1]) [] h := rfl
theorem tM_signOf : XTo cX9_signOf 3 RX9 1 2 43 0 [0, 1] (wM_signOf (qM_signOf)) := by
  refine XTo.run (B := BM_signOf) (cut := xfind []) kM_signOf (xcuts_ok (fun _ h => absurd h List.not_mem_nil)) 34 (fun vs st h r hr => ?_)
  unfold wM_signOf at hr
  split at hr
  · exact (eM_signOf _ _ _).symm.trans hr
  · cases hr
def FM_signOf : List Value → XH → XR := fun vs h => match vs with
  | [.ref a0, .int x1] => qM_signOf a0 x1 h
  | _ => none
theorem SM_signOf : XS yX9_signOf cX9_signOf 3 (some .int) (xrm 2 43) FM_signOf := by
  refine XS.of (own := RX9) (by decide) rfl (rk := 1) rfl (tM_signOf) (fun vs h r hr => ?_)
  unfold FM_signOf at hr
  split at hr
  · exact ⟨rfl, Nat.le_of_ble_eq_true rfl, hr⟩
  · cases hr
-- LineDiagramModel.saysPicture(I)V
def rM_saysPicture : List (Nat × XRow) := [(0, (.aload_n 0, 1, 0, .null, [])),
  (1, (.iload_n 1, 2, 1, .null, [])),
  (2, (.invokevirtual 490, 5, 490, .null, [])),
  (5, (.aload_n 0, 6, 0, .null, [])),
  (6, (.invokevirtual 380, 9, 380, .null, [])),
  (9, (.iconst 0, 10, 0, .int (0 : Int32), [])),
  (10, (.istore_n 2, 11, 2, .null, [])),
  (11, (.iload_n 2, 12, 2, .null, [])),
  (12, (.aload_n 0, 13, 0, .null, [])),
  (13, (.getfield 76, 16, 76, .null, [])),
  (16, (.if_icmp .ge 44, 19, 60, .null, [])),
  (19, (.iconst 0, 20, 0, .int (0 : Int32), [])),
  (20, (.istore_n 3, 21, 3, .null, [])),
  (21, (.iload_n 3, 22, 3, .null, [])),
  (22, (.aload_n 0, 23, 0, .null, [])),
  (23, (.getfield 73, 26, 73, .null, [])),
  (26, (.if_icmp .ge 22, 29, 48, .null, [])),
  (29, (.aload_n 0, 30, 0, .null, [])),
  (30, (.aload_n 0, 31, 0, .null, [])),
  (31, (.iload_n 3, 32, 3, .null, [])),
  (32, (.iload_n 2, 33, 2, .null, [])),
  (33, (.invokestatic 145, 36, 145, .null, [])),
  (36, (.invokevirtual 493, 39, 493, .null, [])),
  (39, (.invokevirtual 484, 42, 484, .null, [])),
  (42, (.iinc 3 1, 45, 3, .int (1 : Int32), [])),
  (45, (.goto (-24), 48, 21, .null, [])),
  (48, (.aload_n 0, 49, 0, .null, [])),
  (49, (.bipush 10, 51, 0, .int (10 : Int32), [])),
  (51, (.invokevirtual 484, 54, 484, .null, [])),
  (54, (.iinc 2 1, 57, 2, .int (1 : Int32), [])),
  (57, (.goto (-46), 60, 11, .null, [])),
  (60, (.return_, 61, 0, .null, []))]
def mM_saysPicture : List (Nat × XM) := [(145, (2, 1, none, FM_cell)), (380, (1, 0, some 9, FM_lays)), (484, (2, 0, some 9, FM_says)), (490, (2, 0, some 9, FM_startsText)), (493, (2, 1, some 9, FM_signOf))]
abbrev BM_saysPicture : XB := (rM_saysPicture, XFT_M, mM_saysPicture, 0, XST_M)
set_option maxRecDepth 100000 in
theorem kM_saysPicture : XOK BM_saysPicture cX9_saysPicture 4 RX9 6 138 := xok_of (cps := []) (K := XKT_M) (by decide +kernel) XKT_M_ok (fun _ h => absurd h List.not_mem_nil) XFT_M_ok (List.forall_mem_cons.mpr ⟨⟨_, _, _, _, _, _, SM_cell, Nat.le_of_ble_eq_true rfl, Nat.le_of_ble_eq_true rfl, cdM_cell, lkM_145, imM_cell, inM_cell, pmM_cell⟩, List.forall_mem_cons.mpr ⟨⟨_, _, _, _, _, _, _, SM_lays, rfl, rfl, Nat.le_of_ble_eq_true rfl, Nat.le_of_ble_eq_true rfl, cdM_lays, lkM_380, imM_lays, slM_lays, inM_lays, pmM_lays⟩, List.forall_mem_cons.mpr ⟨⟨_, _, _, _, _, _, _, SM_says, rfl, rfl, Nat.le_of_ble_eq_true rfl, Nat.le_of_ble_eq_true rfl, cdM_says, lkM_484, imM_says, slM_says, inM_says, pmM_says⟩, List.forall_mem_cons.mpr ⟨⟨_, _, _, _, _, _, _, SM_startsText, rfl, rfl, Nat.le_of_ble_eq_true rfl, Nat.le_of_ble_eq_true rfl, cdM_startsText, lkM_490, imM_startsText, slM_startsText, inM_startsText, pmM_startsText⟩, List.forall_mem_cons.mpr ⟨⟨_, _, _, _, _, _, _, SM_signOf, rfl, rfl, Nat.le_of_ble_eq_true rfl, Nat.le_of_ble_eq_true rfl, cdM_signOf, lkM_493, imM_signOf, slM_signOf, inM_signOf, pmM_signOf⟩, fun _ h => absurd h List.not_mem_nil⟩⟩⟩⟩⟩) XST_M_ok
def wM_saysPicture_48 (f : Nat → Int32 → XH → XR) : List Value → List Value → XH → XR := fun vs st h => match vs, st with
  | [.ref a0, .int x2], [] => f a0 x2 h
  | _, _ => none
def wM_saysPicture_21 (f : Nat → Int32 → Int32 → XH → XR) : List Value → List Value → XH → XR := fun vs st h => match vs, st with
  | [.ref a0, .int x2, .int x3], [] => f a0 x2 x3 h
  | _, _ => none
def wM_saysPicture_11 (f : Nat → Int32 → XH → XR) : List Value → List Value → XH → XR := fun vs st h => match vs, st with
  | [.ref a0, .int x2], [] => f a0 x2 h
  | _, _ => none
def wM_saysPicture (f : Nat → Int32 → XH → XR) : List Value → List Value → XH → XR := fun vs st h => match vs, st with
  | [.ref a0, .int x1], [] => f a0 x1 h
  | _, _ => none
set_option maxRecDepth 100000 in
theorem eM_saysPicture_48 (k11 : Nat → Int32 → XH → XR) (a0 : Nat) (x2 : Int32) (h : XH) : qM_saysPicture_48 k11 a0 x2 h = xrun BM_saysPicture (xfind [(11, ([0, 2], wM_saysPicture_11 (k11)))]) 35 48 (List.zip [0, 2] [.ref a0, .int x2]) [] h := rfl
theorem tM_saysPicture_48 {k11 : Nat → Int32 → XH → XR} (hk11 : XTo cX9_saysPicture 4 RX9 0 6 138 11 [0, 2] (wM_saysPicture_11 k11)) : XTo cX9_saysPicture 4 RX9 0 6 138 48 [0, 2] (wM_saysPicture_48 (qM_saysPicture_48 k11)) := by
  refine XTo.run (B := BM_saysPicture) (cut := xfind [(11, ([0, 2], wM_saysPicture_11 (k11)))]) kM_saysPicture (xcuts_ok (List.forall_mem_cons.mpr ⟨hk11, fun _ h => absurd h List.not_mem_nil⟩)) 35 (fun vs st h r hr => ?_)
  unfold wM_saysPicture_48 at hr
  split at hr
  · exact (eM_saysPicture_48 k11 _ _ _).symm.trans hr
  · cases hr
set_option maxRecDepth 100000 in
theorem eM_saysPicture_21_b (k11 : Nat → Int32 → XH → XR) (k21 : Nat → Int32 → Int32 → XH → XR) (a0 : Nat) (x2 : Int32) (x3 : Int32) (h : XH) : qM_saysPicture_21_b k11 k21 a0 x2 x3 h = xrun BM_saysPicture (xfind [(21, ([0, 2, 3], wM_saysPicture_21 (k21))), (48, ([0, 2], wM_saysPicture_48 (qM_saysPicture_48 k11)))]) 35 21 (List.zip [0, 2, 3] [.ref a0, .int x2, .int x3]) [] h := rfl
theorem tM_saysPicture_21_b {k11 : Nat → Int32 → XH → XR} {k21 : Nat → Int32 → Int32 → XH → XR} (hk11 : XTo cX9_saysPicture 4 RX9 0 6 138 11 [0, 2] (wM_saysPicture_11 k11)) (hk21 : XTo cX9_saysPicture 4 RX9 0 6 138 21 [0, 2, 3] (wM_saysPicture_21 k21)) : XTo cX9_saysPicture 4 RX9 0 6 138 21 [0, 2, 3] (wM_saysPicture_21 (qM_saysPicture_21_b k11 k21)) := by
  refine XTo.run (B := BM_saysPicture) (cut := xfind [(21, ([0, 2, 3], wM_saysPicture_21 (k21))), (48, ([0, 2], wM_saysPicture_48 (qM_saysPicture_48 k11)))]) kM_saysPicture (xcuts_ok (List.forall_mem_cons.mpr ⟨hk21, List.forall_mem_cons.mpr ⟨tM_saysPicture_48 hk11, fun _ h => absurd h List.not_mem_nil⟩⟩)) 35 (fun vs st h r hr => ?_)
  unfold wM_saysPicture_21 at hr
  split at hr
  · exact (eM_saysPicture_21_b k11 k21 _ _ _ _).symm.trans hr
  · cases hr
theorem tM_saysPicture_21 {k11 : Nat → Int32 → XH → XR} (hk11 : XTo cX9_saysPicture 4 RX9 0 6 138 11 [0, 2] (wM_saysPicture_11 k11)) : ∀ n : Nat, XTo cX9_saysPicture 4 RX9 0 6 138 21 [0, 2, 3] (wM_saysPicture_21 (qM_saysPicture_21 k11 n)) := by
  intro n
  induction n with
  | zero =>
    refine XTo.none fun vs st h => ?_
    unfold wM_saysPicture_21
    split <;> rfl
  | succ n ih => exact tM_saysPicture_21_b hk11 ih
set_option maxRecDepth 100000 in
theorem eM_saysPicture_11_b (k11 : Nat → Int32 → XH → XR) (a0 : Nat) (x2 : Int32) (h : XH) : qM_saysPicture_11_b k11 a0 x2 h = xrun BM_saysPicture (xfind [(21, ([0, 2, 3], wM_saysPicture_21 (qM_saysPicture_21 k11 LF)))]) 35 11 (List.zip [0, 2] [.ref a0, .int x2]) [] h := rfl
theorem tM_saysPicture_11_b {k11 : Nat → Int32 → XH → XR} (hk11 : XTo cX9_saysPicture 4 RX9 0 6 138 11 [0, 2] (wM_saysPicture_11 k11)) : XTo cX9_saysPicture 4 RX9 0 6 138 11 [0, 2] (wM_saysPicture_11 (qM_saysPicture_11_b k11)) := by
  refine XTo.run (B := BM_saysPicture) (cut := xfind [(21, ([0, 2, 3], wM_saysPicture_21 (qM_saysPicture_21 k11 LF)))]) kM_saysPicture (xcuts_ok (List.forall_mem_cons.mpr ⟨tM_saysPicture_21 hk11 LF, fun _ h => absurd h List.not_mem_nil⟩)) 35 (fun vs st h r hr => ?_)
  unfold wM_saysPicture_11 at hr
  split at hr
  · exact (eM_saysPicture_11_b k11 _ _ _).symm.trans hr
  · cases hr
theorem tM_saysPicture_11 : ∀ n : Nat, XTo cX9_saysPicture 4 RX9 0 6 138 11 [0, 2] (wM_saysPicture_11 (qM_saysPicture_11 n)) := by
  intro n
  induction n with
  | zero =>
    refine XTo.none fun vs st h => ?_
    unfold wM_saysPicture_11
    split <;> rfl
  | succ n ih => exact tM_saysPicture_11_b  ih
set_option maxRecDepth 100000 in
theorem eM_saysPicture (a0 : Nat) (x1 : Int32) (h : XH) : qM_saysPicture a0 x1 h = xrun BM_saysPicture (xfind [(11, ([0, 2], wM_saysPicture_11 (qM_saysPicture_11 LF)))]) 35 0 (List.zip [0, 1] [.ref a0, .int x1]) [] h := rfl
theorem tM_saysPicture : XTo cX9_saysPicture 4 RX9 0 6 138 0 [0, 1] (wM_saysPicture (qM_saysPicture)) := by
  refine XTo.run (B := BM_saysPicture) (cut := xfind [(11, ([0, 2], wM_saysPicture_11 (qM_saysPicture_11 LF)))]) kM_saysPicture (xcuts_ok (List.forall_mem_cons.mpr ⟨tM_saysPicture_11 LF, fun _ h => absurd h List.not_mem_nil⟩)) 35 (fun vs st h r hr => ?_)
  unfold wM_saysPicture at hr
  split at hr
  · exact (eM_saysPicture _ _ _).symm.trans hr
  · cases hr
def FM_saysPicture : List Value → XH → XR := fun vs h => match vs with
  | [.ref a0, .int x1] => qM_saysPicture a0 x1 h
  | _ => none
theorem SM_saysPicture : XS yX9_saysPicture cX9_saysPicture 4 none (xrm 6 138) FM_saysPicture := by
  refine XS.of (own := RX9) (by decide) rfl (rk := 0) rfl (tM_saysPicture) (fun vs h r hr => ?_)
  unfold FM_saysPicture at hr
  split at hr
  · exact ⟨rfl, Nat.le_of_ble_eq_true rfl, hr⟩
  · cases hr
-- LineDiagramModel.pictureLength()I
def rM_pictureLength : List (Nat × XRow) := [(0, (.aload_n 0, 1, 0, .null, [])),
  (1, (.iconst (-1), 2, 0, .int (-1 : Int32), [])),
  (2, (.invokevirtual 496, 5, 496, .null, [])),
  (5, (.aload_n 0, 6, 0, .null, [])),
  (6, (.getfield 473, 9, 473, .null, [])),
  (9, (.ireturn, 10, 0, .null, []))]
def mM_pictureLength : List (Nat × XM) := [(496, (2, 0, some 9, FM_saysPicture))]
abbrev BM_pictureLength : XB := (rM_pictureLength, XFT_M, mM_pictureLength, 1, XST_M)
set_option maxRecDepth 100000 in
theorem kM_pictureLength : XOK BM_pictureLength cX9_pictureLength 1 RX9 7 161 := xok_of (cps := []) (K := XKT_M) (by decide +kernel) XKT_M_ok (fun _ h => absurd h List.not_mem_nil) XFT_M_ok (List.forall_mem_cons.mpr ⟨⟨_, _, _, _, _, _, _, SM_saysPicture, rfl, rfl, Nat.le_of_ble_eq_true rfl, Nat.le_of_ble_eq_true rfl, cdM_saysPicture, lkM_496, imM_saysPicture, slM_saysPicture, inM_saysPicture, pmM_saysPicture⟩, fun _ h => absurd h List.not_mem_nil⟩) XST_M_ok
def wM_pictureLength (f : Nat → XH → XR) : List Value → List Value → XH → XR := fun vs st h => match vs, st with
  | [.ref a0], [] => f a0 h
  | _, _ => none
set_option maxRecDepth 100000 in
theorem eM_pictureLength (a0 : Nat) (h : XH) : qM_pictureLength a0 h = xrun BM_pictureLength (xfind []) 9 0 (List.zip [0] [.ref a0]) [] h := rfl
theorem tM_pictureLength : XTo cX9_pictureLength 1 RX9 1 7 161 0 [0] (wM_pictureLength (qM_pictureLength)) := by
  refine XTo.run (B := BM_pictureLength) (cut := xfind []) kM_pictureLength (xcuts_ok (fun _ h => absurd h List.not_mem_nil)) 9 (fun vs st h r hr => ?_)
  unfold wM_pictureLength at hr
  split at hr
  · exact (eM_pictureLength _ _).symm.trans hr
  · cases hr
def FM_pictureLength : List Value → XH → XR := fun vs h => match vs with
  | [.ref a0] => qM_pictureLength a0 h
  | _ => none
theorem SM_pictureLength : XS yX9_pictureLength cX9_pictureLength 1 (some .int) (xrm 7 161) FM_pictureLength := by
  refine XS.of (own := RX9) (by decide) rfl (rk := 1) rfl (tM_pictureLength) (fun vs h r hr => ?_)
  unfold FM_pictureLength at hr
  split at hr
  · exact ⟨rfl, Nat.le_of_ble_eq_true rfl, hr⟩
  · cases hr
-- LineDiagram$Board.firstLineOn(I)I
def rB_firstLineOn : List (Nat × XRow) := [(0, (.iconst 0, 1, 0, .int (0 : Int32), [])),
  (1, (.istore_n 2, 2, 2, .null, [])),
  (2, (.iload_n 2, 3, 2, .null, [])),
  (3, (.bipush 8, 5, 0, .int (8 : Int32), [])),
  (5, (.if_icmp .ge 22, 8, 27, .null, [])),
  (8, (.aload_n 0, 9, 0, .null, [])),
  (9, (.getfield 9, 12, 9, .null, [])),
  (12, (.iload_n 1, 13, 1, .null, [])),
  (13, (.iaload, 14, 0, .null, [])),
  (14, (.iload_n 2, 15, 2, .null, [])),
  (15, (.ishr, 16, 0, .null, [])),
  (16, (.iconst 1, 17, 0, .int (1 : Int32), [])),
  (17, (.iand, 18, 0, .null, [])),
  (18, (.ifCond .ne 9, 21, 27, .null, [])),
  (21, (.iinc 2 1, 24, 2, .int (1 : Int32), [])),
  (24, (.goto (-22), 27, 2, .null, [])),
  (27, (.iload_n 2, 28, 2, .null, [])),
  (28, (.ireturn, 29, 0, .null, []))]
def mB_firstLineOn : List (Nat × XM) := []
abbrev BB_firstLineOn : XB := (rB_firstLineOn, XFT_B, mB_firstLineOn, 1, XST_B)
set_option maxRecDepth 100000 in
theorem kB_firstLineOn : XOK BB_firstLineOn cX0_firstLineOn 3 RX0 0 0 := xok_of (cps := []) (K := XKT_B) (by decide +kernel) XKT_B_ok (fun _ h => absurd h List.not_mem_nil) XFT_B_ok (fun _ h => absurd h List.not_mem_nil) XST_B_ok
def wB_firstLineOn_2 (f : Nat → Int32 → Int32 → XH → XR) : List Value → List Value → XH → XR := fun vs st h => match vs, st with
  | [.ref a0, .int x1, .int x2], [] => f a0 x1 x2 h
  | _, _ => none
def wB_firstLineOn (f : Nat → Int32 → XH → XR) : List Value → List Value → XH → XR := fun vs st h => match vs, st with
  | [.ref a0, .int x1], [] => f a0 x1 h
  | _, _ => none
set_option maxRecDepth 100000 in
theorem eB_firstLineOn_2_b (k2 : Nat → Int32 → Int32 → XH → XR) (a0 : Nat) (x1 : Int32) (x2 : Int32) (h : XH) : qB_firstLineOn_2_b k2 a0 x1 x2 h = xrun BB_firstLineOn (xfind [(2, ([0, 1, 2], wB_firstLineOn_2 (k2)))]) 21 2 (List.zip [0, 1, 2] [.ref a0, .int x1, .int x2]) [] h := rfl
theorem tB_firstLineOn_2_b {k2 : Nat → Int32 → Int32 → XH → XR} (hk2 : XTo cX0_firstLineOn 3 RX0 1 0 0 2 [0, 1, 2] (wB_firstLineOn_2 k2)) : XTo cX0_firstLineOn 3 RX0 1 0 0 2 [0, 1, 2] (wB_firstLineOn_2 (qB_firstLineOn_2_b k2)) := by
  refine XTo.run (B := BB_firstLineOn) (cut := xfind [(2, ([0, 1, 2], wB_firstLineOn_2 (k2)))]) kB_firstLineOn (xcuts_ok (List.forall_mem_cons.mpr ⟨hk2, fun _ h => absurd h List.not_mem_nil⟩)) 21 (fun vs st h r hr => ?_)
  unfold wB_firstLineOn_2 at hr
  split at hr
  · exact (eB_firstLineOn_2_b k2 _ _ _ _).symm.trans hr
  · cases hr
theorem tB_firstLineOn_2 : ∀ n : Nat, XTo cX0_firstLineOn 3 RX0 1 0 0 2 [0, 1, 2] (wB_firstLineOn_2 (qB_firstLineOn_2 n)) := by
  intro n
  induction n with
  | zero =>
    refine XTo.none fun vs st h => ?_
    unfold wB_firstLineOn_2
    split <;> rfl
  | succ n ih => exact tB_firstLineOn_2_b  ih
set_option maxRecDepth 100000 in
theorem eB_firstLineOn (a0 : Nat) (x1 : Int32) (h : XH) : qB_firstLineOn a0 x1 h = xrun BB_firstLineOn (xfind [(2, ([0, 1, 2], wB_firstLineOn_2 (qB_firstLineOn_2 LF)))]) 21 0 (List.zip [0, 1] [.ref a0, .int x1]) [] h := rfl
theorem tB_firstLineOn : XTo cX0_firstLineOn 3 RX0 1 0 0 0 [0, 1] (wB_firstLineOn (qB_firstLineOn)) := by
  refine XTo.run (B := BB_firstLineOn) (cut := xfind [(2, ([0, 1, 2], wB_firstLineOn_2 (qB_firstLineOn_2 LF)))]) kB_firstLineOn (xcuts_ok (List.forall_mem_cons.mpr ⟨tB_firstLineOn_2 LF, fun _ h => absurd h List.not_mem_nil⟩)) 21 (fun vs st h r hr => ?_)
  unfold wB_firstLineOn at hr
  split at hr
  · exact (eB_firstLineOn _ _ _).symm.trans hr
  · cases hr
def FB_firstLineOn : List Value → XH → XR := fun vs h => match vs with
  | [.ref a0, .int x1] => qB_firstLineOn a0 x1 h
  | _ => none
theorem SB_firstLineOn : XS yX0_firstLineOn cX0_firstLineOn 3 (some .int) (xrm 0 0) FB_firstLineOn := by
  refine XS.of (own := RX0) (by decide) rfl (rk := 1) rfl (tB_firstLineOn) (fun vs h r hr => ?_)
  unfold FB_firstLineOn at hr
  split at hr
  · exact ⟨rfl, Nat.le_of_ble_eq_true rfl, hr⟩
  · cases hr
