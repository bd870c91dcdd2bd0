-- LineDiagram$Line.insertPoint(III)V
def rLn_insertPoint : List (Nat × XRow) := [(0, (.iload_n 1, 1, 1, .null, [])),
  (1, (.ifCond .lt 20, 4, 21, .null, [])),
  (4, (.iload_n 1, 5, 1, .null, [])),
  (5, (.aload_n 0, 6, 0, .null, [])),
  (6, (.getfield 22, 9, 22, .null, [])),
  (9, (.if_icmp .gt 12, 12, 21, .null, [])),
  (12, (.aload_n 0, 13, 0, .null, [])),
  (13, (.getfield 22, 16, 22, .null, [])),
  (16, (.bipush 10, 18, 0, .int (10 : Int32), [])),
  (18, (.if_icmp .lt 4, 21, 22, .null, [])),
  (21, (.return_, 22, 0, .null, [])),
  (22, (.aload_n 0, 23, 0, .null, [])),
  (23, (.getfield 22, 26, 22, .null, [])),
  (26, (.istore 4, 28, 4, .null, [])),
  (28, (.iload 4, 30, 4, .null, [])),
  (30, (.iload_n 1, 31, 1, .null, [])),
  (31, (.if_icmp .le 41, 34, 72, .null, [])),
  (34, (.aload_n 0, 35, 0, .null, [])),
  (35, (.getfield 9, 38, 9, .null, [])),
  (38, (.iload 4, 40, 4, .null, [])),
  (40, (.aload_n 0, 41, 0, .null, [])),
  (41, (.getfield 9, 44, 9, .null, [])),
  (44, (.iload 4, 46, 4, .null, [])),
  (46, (.iconst 1, 47, 0, .int (1 : Int32), [])),
  (47, (.isub, 48, 0, .null, [])),
  (48, (.iaload, 49, 0, .null, [])),
  (49, (.iastore, 50, 0, .null, [])),
  (50, (.aload_n 0, 51, 0, .null, [])),
  (51, (.getfield 15, 54, 15, .null, [])),
  (54, (.iload 4, 56, 4, .null, [])),
  (56, (.aload_n 0, 57, 0, .null, [])),
  (57, (.getfield 15, 60, 15, .null, [])),
  (60, (.iload 4, 62, 4, .null, [])),
  (62, (.iconst 1, 63, 0, .int (1 : Int32), [])),
  (63, (.isub, 64, 0, .null, [])),
  (64, (.iaload, 65, 0, .null, [])),
  (65, (.iastore, 66, 0, .null, [])),
  (66, (.iinc 4 (-1), 69, 4, .int (-1 : Int32), [])),
  (69, (.goto (-41), 72, 28, .null, [])),
  (72, (.aload_n 0, 73, 0, .null, [])),
  (73, (.getfield 9, 76, 9, .null, [])),
  (76, (.iload_n 1, 77, 1, .null, [])),
  (77, (.iload_n 2, 78, 2, .null, [])),
  (78, (.iastore, 79, 0, .null, [])),
  (79, (.aload_n 0, 80, 0, .null, [])),
  (80, (.getfield 15, 83, 15, .null, [])),
  (83, (.iload_n 1, 84, 1, .null, [])),
  (84, (.iload_n 3, 85, 3, .null, [])),
  (85, (.iastore, 86, 0, .null, [])),
  (86, (.aload_n 0, 87, 0, .null, [])),
  (87, (.dup, 88, 0, .null, [])),
  (88, (.getfield 22, 91, 22, .null, [])),
  (91, (.iconst 1, 92, 0, .int (1 : Int32), [])),
  (92, (.iadd, 93, 0, .null, [])),
  (93, (.putfield 22, 96, 22, .null, [])),
  (96, (.return_, 97, 0, .null, []))]
def mLn_insertPoint : List (Nat × XM) := []
abbrev BLn_insertPoint : XB := (rLn_insertPoint, XFT_Ln, mLn_insertPoint, 0, XST_Ln)
set_option maxRecDepth 100000 in
theorem kLn_insertPoint : XOK BLn_insertPoint cX3_insertPoint 5 RX3 0 0 := xok_of (cps := []) (K := XKT_Ln) (by decide +kernel) XKT_Ln_ok (fun _ h => absurd h List.not_mem_nil) XFT_Ln_ok (fun _ h => absurd h List.not_mem_nil) XST_Ln_ok
def wLn_insertPoint_72 (f : Nat → Int32 → Int32 → Int32 → XH → XR) : List Value → List Value → XH → XR := fun vs st h => match vs, st with
  | [.ref a0, .int x1, .int x2, .int x3], [] => f a0 x1 x2 x3 h
  | _, _ => none
def wLn_insertPoint_28 (f : Nat → Int32 → Int32 → Int32 → Int32 → XH → XR) : List Value → List Value → XH → XR := fun vs st h => match vs, st with
  | [.ref a0, .int x1, .int x2, .int x3, .int x4], [] => f a0 x1 x2 x3 x4 h
  | _, _ => none
def wLn_insertPoint (f : Nat → Int32 → Int32 → Int32 → XH → XR) : List Value → List Value → XH → XR := fun vs st h => match vs, st with
  | [.ref a0, .int x1, .int x2, .int x3], [] => f a0 x1 x2 x3 h
  | _, _ => none
set_option maxRecDepth 100000 in
theorem eLn_insertPoint_72 (a0 : Nat) (x1 : Int32) (x2 : Int32) (x3 : Int32) (h : XH) : qLn_insertPoint_72 a0 x1 x2 x3 h = xrun BLn_insertPoint (xfind []) 59 72 (List.zip [0, 1, 2, 3] [.ref a0, .int x1, .int x2, .int x3]) [] h := rfl
theorem tLn_insertPoint_72 : XTo cX3_insertPoint 5 RX3 0 0 0 72 [0, 1, 2, 3] (wLn_insertPoint_72 (qLn_insertPoint_72)) := by
  refine XTo.run (B := BLn_insertPoint) (cut := xfind []) kLn_insertPoint (xcuts_ok (fun _ h => absurd h List.not_mem_nil)) 59 (fun vs st h r hr => ?_)
  unfold wLn_insertPoint_72 at hr
  split at hr
  · exact (eLn_insertPoint_72 _ _ _ _ _).symm.trans hr
  · cases hr
set_option maxRecDepth 100000 in
theorem eLn_insertPoint_28_b (k28 : Nat → Int32 → Int32 → Int32 → Int32 → XH → XR) (a0 : Nat) (x1 : Int32) (x2 : Int32) (x3 : Int32) (x4 : Int32) (h : XH) : qLn_insertPoint_28_b k28 a0 x1 x2 x3 x4 h = xrun BLn_insertPoint (xfind [(28, ([0, 1, 2, 3, 4], wLn_insertPoint_28 (k28))), (72, ([0, 1, 2, 3], wLn_insertPoint_72 (qLn_insertPoint_72)))]) 59 28 (List.zip [0, 1, 2, 3, 4] [.ref a0, .int x1, .int x2, .int x3, .int x4]) [] h := rfl
theorem tLn_insertPoint_28_b {k28 : Nat → Int32 → Int32 → Int32 → Int32 → XH → XR} (hk28 : XTo cX3_insertPoint 5 RX3 0 0 0 28 [0, 1, 2, 3, 4] (wLn_insertPoint_28 k28)) : XTo cX3_insertPoint 5 RX3 0 0 0 28 [0, 1, 2, 3, 4] (wLn_insertPoint_28 (qLn_insertPoint_28_b k28)) := by
  refine XTo.run (B := BLn_insertPoint) (cut := xfind [(28, ([0, 1, 2, 3, 4], wLn_insertPoint_28 (k28))), (72, ([0, 1, 2, 3], wLn_insertPoint_72 (qLn_insertPoint_72)))]) kLn_insertPoint (xcuts_ok (List.forall_mem_cons.mpr ⟨hk28, List.forall_mem_cons.mpr ⟨tLn_insertPoint_72, fun _ h => absurd h List.not_mem_nil⟩⟩)) 59 (fun vs st h r hr => ?_)
  unfold wLn_insertPoint_28 at hr
  split at hr
  · exact (eLn_insertPoint_28_b k28 _ _ _ _ _ _).symm.trans hr
  · cases hr
theorem tLn_insertPoint_28 : ∀ n : Nat, XTo cX3_insertPoint 5 RX3 0 0 0 28 [0, 1, 2, 3, 4] (wLn_insertPoint_28 (qLn_insertPoint_28 n)) := by
  intro n
  induction n with
  | zero =>
    refine XTo.none fun vs st h => ?_
    unfold wLn_insertPoint_28
    split <;> rfl
  | succ n ih => exact tLn_insertPoint_28_b  ih
set_option maxRecDepth 100000 in
theorem eLn_insertPoint (a0 : Nat) (x1 : Int32) (x2 : Int32) (x3 : Int32) (h : XH) : qLn_insertPoint a0 x1 x2 x3 h = xrun BLn_insertPoint (xfind [(28, ([0, 1, 2, 3, 4], wLn_insertPoint_28 (qLn_insertPoint_28 LF)))]) 59 0 (List.zip [0, 1, 2, 3] [.ref a0, .int x1, .int x2, .int x3]) [] h := rfl
theorem tLn_insertPoint : XTo cX3_insertPoint 5 RX3 0 0 0 0 [0, 1, 2, 3] (wLn_insertPoint (qLn_insertPoint)) := by
  refine XTo.run (B := BLn_insertPoint) (cut := xfind [(28, ([0, 1, 2, 3, 4], wLn_insertPoint_28 (qLn_insertPoint_28 LF)))]) kLn_insertPoint (xcuts_ok (List.forall_mem_cons.mpr ⟨tLn_insertPoint_28 LF, fun _ h => absurd h List.not_mem_nil⟩)) 59 (fun vs st h r hr => ?_)
  unfold wLn_insertPoint at hr
  split at hr
  · exact (eLn_insertPoint _ _ _ _ _).symm.trans hr
  · cases hr
def FLn_insertPoint : List Value → XH → XR := fun vs h => match vs with
  | [.ref a0, .int x1, .int x2, .int x3] => qLn_insertPoint a0 x1 x2 x3 h
  | _ => none
theorem SLn_insertPoint : XS yX3_insertPoint cX3_insertPoint 5 none (xrm 0 0) FLn_insertPoint := by
  refine XS.of (own := RX3) (by decide) rfl (rk := 0) rfl (tLn_insertPoint) (fun vs h r hr => ?_)
  unfold FLn_insertPoint at hr
  split at hr
  · exact ⟨rfl, Nat.le_of_ble_eq_true rfl, hr⟩
  · cases hr
-- LineDiagram$Line.signOf(I)I
def rLn_signOf : List (Nat × XRow) := [(0, (.iload_n 0, 1, 0, .null, [])),
  (1, (.ifCond .ne 5, 4, 6, .null, [])),
  (4, (.iconst 0, 5, 0, .int (0 : Int32), [])),
  (5, (.ireturn, 6, 0, .null, [])),
  (6, (.iload_n 0, 7, 0, .null, [])),
  (7, (.ifCond .ge 7, 10, 14, .null, [])),
  (10, (.iconst (-1), 11, 0, .int (-1 : Int32), [])),
  (11, (.goto 4, 14, 15, .null, [])),
  (14, (.iconst 1, 15, 0, .int (1 : Int32), [])),
  (15, (.ireturn, 16, 0, .null, []))]
def mLn_signOf : List (Nat × XM) := []
abbrev BLn_signOf : XB := (rLn_signOf, XFT_Ln, mLn_signOf, 1, XST_Ln)
set_option maxRecDepth 100000 in
theorem kLn_signOf : XOK BLn_signOf cX3_signOf 1 RX3 0 0 := xok_of (cps := []) (K := XKT_Ln) (by decide +kernel) XKT_Ln_ok (fun _ h => absurd h List.not_mem_nil) XFT_Ln_ok (fun _ h => absurd h List.not_mem_nil) XST_Ln_ok
def wLn_signOf (f : Int32 → XH → XR) : List Value → List Value → XH → XR := fun vs st h => match vs, st with
  | [.int x0], [] => f x0 h
  | _, _ => none
set_option maxRecDepth 100000 in
theorem eLn_signOf (x0 : Int32) (h : XH) : qLn_signOf x0 h = xrun BLn_signOf (xfind []) 13 0 (List.zip [0] [.int x0]) [] h := rfl
theorem tLn_signOf : XTo cX3_signOf 1 RX3 1 0 0 0 [0] (wLn_signOf (qLn_signOf)) := by
  refine XTo.run (B := BLn_signOf) (cut := xfind []) kLn_signOf (xcuts_ok (fun _ h => absurd h List.not_mem_nil)) 13 (fun vs st h r hr => ?_)
  unfold wLn_signOf at hr
  split at hr
  · exact (eLn_signOf _ _).symm.trans hr
  · cases hr
def FLn_signOf : List Value → XH → XR := fun vs h => match vs with
  | [.int x0] => qLn_signOf x0 h
  | _ => none
theorem SLn_signOf : XS yX3_signOf cX3_signOf 1 (some .int) (xrm 0 0) FLn_signOf := by
  refine XS.of (own := RX3) (by decide) rfl (rk := 1) rfl (tLn_signOf) (fun vs h r hr => ?_)
  unfold FLn_signOf at hr
  split at hr
  · exact ⟨rfl, Nat.le_of_ble_eq_true rfl, hr⟩
  · cases hr
-- LineDiagram$Line.wayOfRun(I)I
def rLn_wayOfRun : List (Nat × XRow) := [(0, (.iload_n 1, 1, 1, .null, [])),
  (1, (.ifCond .lt 13, 4, 14, .null, [])),
  (4, (.iload_n 1, 5, 1, .null, [])),
  (5, (.aload_n 0, 6, 0, .null, [])),
  (6, (.getfield 22, 9, 22, .null, [])),
  (9, (.iconst 1, 10, 0, .int (1 : Int32), [])),
  (10, (.isub, 11, 0, .null, [])),
  (11, (.if_icmp .lt 5, 14, 16, .null, [])),
  (14, (.iconst (-1), 15, 0, .int (-1 : Int32), [])),
  (15, (.ireturn, 16, 0, .null, [])),
  (16, (.aload_n 0, 17, 0, .null, [])),
  (17, (.getfield 9, 20, 9, .null, [])),
  (20, (.iload_n 1, 21, 1, .null, [])),
  (21, (.iconst 1, 22, 0, .int (1 : Int32), [])),
  (22, (.iadd, 23, 0, .null, [])),
  (23, (.iaload, 24, 0, .null, [])),
  (24, (.aload_n 0, 25, 0, .null, [])),
  (25, (.getfield 9, 28, 9, .null, [])),
  (28, (.iload_n 1, 29, 1, .null, [])),
  (29, (.iaload, 30, 0, .null, [])),
  (30, (.isub, 31, 0, .null, [])),
  (31, (.istore_n 2, 32, 2, .null, [])),
  (32, (.aload_n 0, 33, 0, .null, [])),
  (33, (.getfield 15, 36, 15, .null, [])),
  (36, (.iload_n 1, 37, 1, .null, [])),
  (37, (.iconst 1, 38, 0, .int (1 : Int32), [])),
  (38, (.iadd, 39, 0, .null, [])),
  (39, (.iaload, 40, 0, .null, [])),
  (40, (.aload_n 0, 41, 0, .null, [])),
  (41, (.getfield 15, 44, 15, .null, [])),
  (44, (.iload_n 1, 45, 1, .null, [])),
  (45, (.iaload, 46, 0, .null, [])),
  (46, (.isub, 47, 0, .null, [])),
  (47, (.istore_n 3, 48, 3, .null, [])),
  (48, (.iload_n 2, 49, 2, .null, [])),
  (49, (.ifCond .eq 20, 52, 69, .null, [])),
  (52, (.iload_n 3, 53, 3, .null, [])),
  (53, (.ifCond .eq 16, 56, 69, .null, [])),
  (56, (.iload_n 2, 57, 2, .null, [])),
  (57, (.invokestatic 37, 60, 37, .int (1 : Int32), [])),
  (60, (.iload_n 3, 61, 3, .null, [])),
  (61, (.invokestatic 37, 64, 37, .int (1 : Int32), [])),
  (64, (.if_icmp .eq 5, 67, 69, .null, [])),
  (67, (.iconst (-1), 68, 0, .int (-1 : Int32), [])),
  (68, (.ireturn, 69, 0, .null, [])),
  (69, (.getstatic 43, 72, 43, .null, [])),
  (72, (.iconst 3, 73, 0, .int (3 : Int32), [])),
  (73, (.iload_n 3, 74, 3, .null, [])),
  (74, (.invokestatic 46, 77, 46, .null, [])),
  (77, (.iconst 1, 78, 0, .int (1 : Int32), [])),
  (78, (.iadd, 79, 0, .null, [])),
  (79, (.imul, 80, 0, .null, [])),
  (80, (.iload_n 2, 81, 2, .null, [])),
  (81, (.invokestatic 46, 84, 46, .null, [])),
  (84, (.iadd, 85, 0, .null, [])),
  (85, (.iconst 1, 86, 0, .int (1 : Int32), [])),
  (86, (.iadd, 87, 0, .null, [])),
  (87, (.iaload, 88, 0, .null, [])),
  (88, (.ireturn, 89, 0, .null, []))]
def mLn_wayOfRun : List (Nat × XM) := [(46, (1, 1, none, FLn_signOf))]
abbrev BLn_wayOfRun : XB := (rLn_wayOfRun, XFT_Ln, mLn_wayOfRun, 1, XST_Ln)
set_option maxRecDepth 100000 in
theorem kLn_wayOfRun : XOK BLn_wayOfRun cX3_wayOfRun 4 RX3 1 21 := xok_of (cps := [(37, 1)]) (K := XKT_Ln) (by decide +kernel) XKT_Ln_ok (List.forall_mem_cons.mpr ⟨lkLn_cp37 _ _ (Nat.le_of_ble_eq_true rfl) (Nat.le_of_ble_eq_true rfl), fun _ h => absurd h List.not_mem_nil⟩) XFT_Ln_ok (List.forall_mem_cons.mpr ⟨⟨_, _, _, _, _, _, SLn_signOf, Nat.le_of_ble_eq_true rfl, Nat.le_of_ble_eq_true rfl, cdLn_signOf, lkLn_46, imLn_signOf, inLn_signOf, pmLn_signOf⟩, fun _ h => absurd h List.not_mem_nil⟩) XST_Ln_ok
def wLn_wayOfRun_69 (f : Int32 → Int32 → XH → XR) : List Value → List Value → XH → XR := fun vs st h => match vs, st with
  | [.int x2, .int x3], [] => f x2 x3 h
  | _, _ => none
def wLn_wayOfRun (f : Nat → Int32 → XH → XR) : List Value → List Value → XH → XR := fun vs st h => match vs, st with
  | [.ref a0, .int x1], [] => f a0 x1 h
  | _, _ => none
set_option maxRecDepth 100000 in
theorem eLn_wayOfRun_69 (x2 : Int32) (x3 : Int32) (h : XH) : qLn_wayOfRun_69 x2 x3 h = xrun BLn_wayOfRun (xfind []) 62 69 (List.zip [2, 3] [.int x2, .int x3]) [] h := rfl
theorem tLn_wayOfRun_69 : XTo cX3_wayOfRun 4 RX3 1 1 21 69 [2, 3] (wLn_wayOfRun_69 (qLn_wayOfRun_69)) := by
  refine XTo.run (B := BLn_wayOfRun) (cut := xfind []) kLn_wayOfRun (xcuts_ok (fun _ h => absurd h List.not_mem_nil)) 62 (fun vs st h r hr => ?_)
  unfold wLn_wayOfRun_69 at hr
  split at hr
  · exact (eLn_wayOfRun_69 _ _ _).symm.trans hr
  · cases hr
set_option maxRecDepth 100000 in
theorem eLn_wayOfRun (a0 : Nat) (x1 : Int32) (h : XH) : qLn_wayOfRun a0 x1 h = xrun BLn_wayOfRun (xfind [(69, ([2, 3], wLn_wayOfRun_69 (qLn_wayOfRun_69)))]) 62 0 (List.zip [0, 1] [.ref a0, .int x1]) [] h := rfl
theorem tLn_wayOfRun : XTo cX3_wayOfRun 4 RX3 1 1 21 0 [0, 1] (wLn_wayOfRun (qLn_wayOfRun)) := by
  refine XTo.run (B := BLn_wayOfRun) (cut := xfind [(69, ([2, 3], wLn_wayOfRun_69 (qLn_wayOfRun_69)))]) kLn_wayOfRun (xcuts_ok (List.forall_mem_cons.mpr ⟨tLn_wayOfRun_69, fun _ h => absurd h List.not_mem_nil⟩)) 62 (fun vs st h r hr => ?_)
  unfold wLn_wayOfRun at hr
  split at hr
  · exact (eLn_wayOfRun _ _ _).symm.trans hr
  · cases hr
def FLn_wayOfRun : List Value → XH → XR := fun vs h => match vs with
  | [.ref a0, .int x1] => qLn_wayOfRun a0 x1 h
  | _ => none
theorem SLn_wayOfRun : XS yX3_wayOfRun cX3_wayOfRun 4 (some .int) (xrm 1 21) FLn_wayOfRun := by
  refine XS.of (own := RX3) (by decide) rfl (rk := 1) rfl (tLn_wayOfRun) (fun vs h r hr => ?_)
  unfold FLn_wayOfRun at hr
  split at hr
  · exact ⟨rfl, Nat.le_of_ble_eq_true rfl, hr⟩
  · cases hr
-- LineDiagram$Line.turnAt(I)I
def rLn_turnAt : List (Nat × XRow) := [(0, (.iload_n 1, 1, 1, .null, [])),
  (1, (.iconst 1, 2, 0, .int (1 : Int32), [])),
  (2, (.if_icmp .lt 13, 5, 15, .null, [])),
  (5, (.iload_n 1, 6, 1, .null, [])),
  (6, (.aload_n 0, 7, 0, .null, [])),
  (7, (.getfield 22, 10, 22, .null, [])),
  (10, (.iconst 1, 11, 0, .int (1 : Int32), [])),
  (11, (.isub, 12, 0, .null, [])),
  (12, (.if_icmp .lt 5, 15, 17, .null, [])),
  (15, (.iconst 0, 16, 0, .int (0 : Int32), [])),
  (16, (.ireturn, 17, 0, .null, [])),
  (17, (.aload_n 0, 18, 0, .null, [])),
  (18, (.iload_n 1, 19, 1, .null, [])),
  (19, (.iconst 1, 20, 0, .int (1 : Int32), [])),
  (20, (.isub, 21, 0, .null, [])),
  (21, (.invokevirtual 56, 24, 56, .null, [])),
  (24, (.aload_n 0, 25, 0, .null, [])),
  (25, (.iload_n 1, 26, 1, .null, [])),
  (26, (.invokevirtual 56, 29, 56, .null, [])),
  (29, (.isub, 30, 0, .null, [])),
  (30, (.invokestatic 37, 33, 37, .int (1 : Int32), [])),
  (33, (.istore_n 2, 34, 2, .null, [])),
  (34, (.iload_n 2, 35, 2, .null, [])),
  (35, (.bipush 8, 37, 0, .int (8 : Int32), [])),
  (37, (.iload_n 2, 38, 2, .null, [])),
  (38, (.isub, 39, 0, .null, [])),
  (39, (.invokestatic 59, 42, 59, .int (3 : Int32), [])),
  (42, (.ireturn, 43, 0, .null, []))]
def mLn_turnAt : List (Nat × XM) := [(56, (2, 1, some 3, FLn_wayOfRun))]
abbrev BLn_turnAt : XB := (rLn_turnAt, XFT_Ln, mLn_turnAt, 1, XST_Ln)
set_option maxRecDepth 100000 in
theorem kLn_turnAt : XOK BLn_turnAt cX3_turnAt 3 RX3 2 44 := xok_of (cps := [(37, 1), (59, 3)]) (K := XKT_Ln) (by decide +kernel) XKT_Ln_ok (List.forall_mem_cons.mpr ⟨lkLn_cp37 _ _ (Nat.le_of_ble_eq_true rfl) (Nat.le_of_ble_eq_true rfl), List.forall_mem_cons.mpr ⟨lkLn_cp59 _ _ (Nat.le_of_ble_eq_true rfl) (Nat.le_of_ble_eq_true rfl), fun _ h => absurd h List.not_mem_nil⟩⟩) XFT_Ln_ok (List.forall_mem_cons.mpr ⟨⟨_, _, _, _, _, _, _, SLn_wayOfRun, rfl, rfl, Nat.le_of_ble_eq_true rfl, Nat.le_of_ble_eq_true rfl, cdLn_wayOfRun, lkLn_56, imLn_wayOfRun, slLn_wayOfRun, inLn_wayOfRun, pmLn_wayOfRun⟩, fun _ h => absurd h List.not_mem_nil⟩) XST_Ln_ok
def wLn_turnAt (f : Nat → Int32 → XH → XR) : List Value → List Value → XH → XR := fun vs st h => match vs, st with
  | [.ref a0, .int x1], [] => f a0 x1 h
  | _, _ => none
set_option maxRecDepth 100000 in
theorem eLn_turnAt (a0 : Nat) (x1 : Int32) (h : XH) : qLn_turnAt a0 x1 h = xrun BLn_turnAt (xfind []) 31 0 (List.zip [0, 1] [.ref a0, .int x1]) [] h := rfl
theorem tLn_turnAt : XTo cX3_turnAt 3 RX3 1 2 44 0 [0, 1] (wLn_turnAt (qLn_turnAt)) := by
  refine XTo.run (B := BLn_turnAt) (cut := xfind []) kLn_turnAt (xcuts_ok (fun _ h => absurd h List.not_mem_nil)) 31 (fun vs st h r hr => ?_)
  unfold wLn_turnAt at hr
  split at hr
  · exact (eLn_turnAt _ _ _).symm.trans hr
  · cases hr
def FLn_turnAt : List Value → XH → XR := fun vs h => match vs with
  | [.ref a0, .int x1] => qLn_turnAt a0 x1 h
  | _ => none
theorem SLn_turnAt : XS yX3_turnAt cX3_turnAt 3 (some .int) (xrm 2 44) FLn_turnAt := by
  refine XS.of (own := RX3) (by decide) rfl (rk := 1) rfl (tLn_turnAt) (fun vs h r hr => ?_)
  unfold FLn_turnAt at hr
  split at hr
  · exact ⟨rfl, Nat.le_of_ble_eq_true rfl, hr⟩
  · cases hr
-- LineDiagram$Line.isCrooked(I)Z
def rLn_isCrooked : List (Nat × XRow) := [(0, (.iconst 0, 1, 0, .int (0 : Int32), [])),
  (1, (.istore_n 2, 2, 2, .null, [])),
  (2, (.iload_n 2, 3, 2, .null, [])),
  (3, (.aload_n 0, 4, 0, .null, [])),
  (4, (.getfield 22, 7, 22, .null, [])),
  (7, (.iconst 1, 8, 0, .int (1 : Int32), [])),
  (8, (.isub, 9, 0, .null, [])),
  (9, (.if_icmp .ge 28, 12, 37, .null, [])),
  (12, (.aload_n 0, 13, 0, .null, [])),
  (13, (.iload_n 2, 14, 2, .null, [])),
  (14, (.invokevirtual 56, 17, 56, .null, [])),
  (17, (.ifCond .lt 12, 20, 29, .null, [])),
  (20, (.aload_n 0, 21, 0, .null, [])),
  (21, (.iload_n 2, 22, 2, .null, [])),
  (22, (.invokevirtual 62, 25, 62, .null, [])),
  (25, (.iload_n 1, 26, 1, .null, [])),
  (26, (.if_icmp .le 5, 29, 31, .null, [])),
  (29, (.iconst 1, 30, 0, .int (1 : Int32), [])),
  (30, (.ireturn, 31, 0, .null, [])),
  (31, (.iinc 2 1, 34, 2, .int (1 : Int32), [])),
  (34, (.goto (-32), 37, 2, .null, [])),
  (37, (.iconst 0, 38, 0, .int (0 : Int32), [])),
  (38, (.ireturn, 39, 0, .null, []))]
def mLn_isCrooked : List (Nat × XM) := [(56, (2, 1, some 3, FLn_wayOfRun)), (62, (2, 1, some 3, FLn_turnAt))]
abbrev BLn_isCrooked : XB := (rLn_isCrooked, XFT_Ln, mLn_isCrooked, 6, XST_Ln)
set_option maxRecDepth 100000 in
theorem kLn_isCrooked : XOK BLn_isCrooked cX3_isCrooked 3 RX3 3 66 := xok_of (cps := []) (K := XKT_Ln) (by decide +kernel) XKT_Ln_ok (fun _ h => absurd h List.not_mem_nil) XFT_Ln_ok (List.forall_mem_cons.mpr ⟨⟨_, _, _, _, _, _, _, SLn_wayOfRun, rfl, rfl, Nat.le_of_ble_eq_true rfl, Nat.le_of_ble_eq_true rfl, cdLn_wayOfRun, lkLn_56, imLn_wayOfRun, slLn_wayOfRun, inLn_wayOfRun, pmLn_wayOfRun⟩, List.forall_mem_cons.mpr ⟨⟨_, _, _, _, _, _, _, SLn_turnAt, rfl, rfl, Nat.le_of_ble_eq_true rfl, Nat.le_of_ble_eq_true rfl, cdLn_turnAt, lkLn_62, imLn_turnAt, slLn_turnAt, inLn_turnAt, pmLn_turnAt⟩, fun _ h => absurd h List.not_mem_nil⟩⟩) XST_Ln_ok
def wLn_isCrooked_2 (f : Nat → Int32 → Int32 → XH → XR) : List Value → List Value → XH → XR := fun vs st h => match vs, st with
  | [.ref a0, .int x1, .int x2], [] => f a0 x1 x2 h
  | _, _ => none
def wLn_isCrooked (f : Nat → Int32 → XH → XR) : List Value → List Value → XH → XR := fun vs st h => match vs, st with
  | [.ref a0, .int x1], [] => f a0 x1 h
  | _, _ => none
set_option maxRecDepth 100000 in
theorem eLn_isCrooked_2_b (k2 : Nat → Int32 → Int32 → XH → XR) (a0 : Nat) (x1 : Int32) (x2 : Int32) (h : XH) : qLn_isCrooked_2_b k2 a0 x1 x2 h = xrun BLn_isCrooked (xfind [(2, ([0, 1, 2], wLn_isCrooked_2 (k2)))]) 26 2 (List.zip [0, 1, 2] [.ref a0, .int x1, .int x2]) [] h := rfl
theorem tLn_isCrooked_2_b {k2 : Nat → Int32 → Int32 → XH → XR} (hk2 : XTo cX3_isCrooked 3 RX3 6 3 66 2 [0, 1, 2] (wLn_isCrooked_2 k2)) : XTo cX3_isCrooked 3 RX3 6 3 66 2 [0, 1, 2] (wLn_isCrooked_2 (qLn_isCrooked_2_b k2)) := by
  refine XTo.run (B := BLn_isCrooked) (cut := xfind [(2, ([0, 1, 2], wLn_isCrooked_2 (k2)))]) kLn_isCrooked (xcuts_ok (List.forall_mem_cons.mpr ⟨hk2, fun _ h => absurd h List.not_mem_nil⟩)) 26 (fun vs st h r hr => ?_)
  unfold wLn_isCrooked_2 at hr
  split at hr
  · exact (eLn_isCrooked_2_b k2 _ _ _ _).symm.trans hr
  · cases hr
theorem tLn_isCrooked_2 : ∀ n : Nat, XTo cX3_isCrooked 3 RX3 6 3 66 2 [0, 1, 2] (wLn_isCrooked_2 (qLn_isCrooked_2 n)) := by
  intro n
  induction n with
  | zero =>
    refine XTo.none fun vs st h => ?_
    unfold wLn_isCrooked_2
    split <;> rfl
  | succ n ih => exact tLn_isCrooked_2_b  ih
set_option maxRecDepth 100000 in
theorem eLn_isCrooked (a0 : Nat) (x1 : Int32) (h : XH) : qLn_isCrooked a0 x1 h = xrun BLn_isCrooked (xfind [(2, ([0, 1, 2], wLn_isCrooked_2 (qLn_isCrooked_2 LF)))]) 26 0 (List.zip [0, 1] [.ref a0, .int x1]) [] h := rfl
theorem tLn_isCrooked : XTo cX3_isCrooked 3 RX3 6 3 66 0 [0, 1] (wLn_isCrooked (qLn_isCrooked)) := by
  refine XTo.run (B := BLn_isCrooked) (cut := xfind [(2, ([0, 1, 2], wLn_isCrooked_2 (qLn_isCrooked_2 LF)))]) kLn_isCrooked (xcuts_ok (List.forall_mem_cons.mpr ⟨tLn_isCrooked_2 LF, fun _ h => absurd h List.not_mem_nil⟩)) 26 (fun vs st h r hr => ?_)
  unfold wLn_isCrooked at hr
  split at hr
  · exact (eLn_isCrooked _ _ _).symm.trans hr
  · cases hr
def FLn_isCrooked : List Value → XH → XR := fun vs h => match vs with
  | [.ref a0, .int x1] => qLn_isCrooked a0 x1 h
  | _ => none
theorem SLn_isCrooked : XS yX3_isCrooked cX3_isCrooked 3 (some .boolean) (xrm 3 66) FLn_isCrooked := by
  refine XS.of (own := RX3) (by decide) rfl (rk := 6) rfl (tLn_isCrooked) (fun vs h r hr => ?_)
  unfold FLn_isCrooked at hr
  split at hr
  · exact ⟨rfl, Nat.le_of_ble_eq_true rfl, hr⟩
  · cases hr
-- LineDiagram$Line.stepsOfRun(I)I
def rLn_stepsOfRun : List (Nat × XRow) := [(0, (.iload_n 1, 1, 1, .null, [])),
  (1, (.ifCond .lt 13, 4, 14, .null, [])),
  (4, (.iload_n 1, 5, 1, .null, [])),
  (5, (.aload_n 0, 6, 0, .null, [])),
  (6, (.getfield 22, 9, 22, .null, [])),
  (9, (.iconst 1, 10, 0, .int (1 : Int32), [])),
  (10, (.isub, 11, 0, .null, [])),
  (11, (.if_icmp .lt 5, 14, 16, .null, [])),
  (14, (.iconst 0, 15, 0, .int (0 : Int32), [])),
  (15, (.ireturn, 16, 0, .null, [])),
  (16, (.aload_n 0, 17, 0, .null, [])),
  (17, (.getfield 9, 20, 9, .null, [])),
  (20, (.iload_n 1, 21, 1, .null, [])),
  (21, (.iconst 1, 22, 0, .int (1 : Int32), [])),
  (22, (.iadd, 23, 0, .null, [])),
  (23, (.iaload, 24, 0, .null, [])),
  (24, (.aload_n 0, 25, 0, .null, [])),
  (25, (.getfield 9, 28, 9, .null, [])),
  (28, (.iload_n 1, 29, 1, .null, [])),
  (29, (.iaload, 30, 0, .null, [])),
  (30, (.isub, 31, 0, .null, [])),
  (31, (.invokestatic 37, 34, 37, .int (1 : Int32), [])),
  (34, (.aload_n 0, 35, 0, .null, [])),
  (35, (.getfield 15, 38, 15, .null, [])),
  (38, (.iload_n 1, 39, 1, .null, [])),
  (39, (.iconst 1, 40, 0, .int (1 : Int32), [])),
  (40, (.iadd, 41, 0, .null, [])),
  (41, (.iaload, 42, 0, .null, [])),
  (42, (.aload_n 0, 43, 0, .null, [])),
  (43, (.getfield 15, 46, 15, .null, [])),
  (46, (.iload_n 1, 47, 1, .null, [])),
  (47, (.iaload, 48, 0, .null, [])),
  (48, (.isub, 49, 0, .null, [])),
  (49, (.invokestatic 37, 52, 37, .int (1 : Int32), [])),
  (52, (.invokestatic 49, 55, 49, .int (2 : Int32), [])),
  (55, (.ireturn, 56, 0, .null, []))]
def mLn_stepsOfRun : List (Nat × XM) := []
abbrev BLn_stepsOfRun : XB := (rLn_stepsOfRun, XFT_Ln, mLn_stepsOfRun, 1, XST_Ln)
set_option maxRecDepth 100000 in
theorem kLn_stepsOfRun : XOK BLn_stepsOfRun cX3_stepsOfRun 2 RX3 1 21 := xok_of (cps := [(37, 1), (49, 2)]) (K := XKT_Ln) (by decide +kernel) XKT_Ln_ok (List.forall_mem_cons.mpr ⟨lkLn_cp37 _ _ (Nat.le_of_ble_eq_true rfl) (Nat.le_of_ble_eq_true rfl), List.forall_mem_cons.mpr ⟨lkLn_cp49 _ _ (Nat.le_of_ble_eq_true rfl) (Nat.le_of_ble_eq_true rfl), fun _ h => absurd h List.not_mem_nil⟩⟩) XFT_Ln_ok (fun _ h => absurd h List.not_mem_nil) XST_Ln_ok
def wLn_stepsOfRun (f : Nat → Int32 → XH → XR) : List Value → List Value → XH → XR := fun vs st h => match vs, st with
  | [.ref a0, .int x1], [] => f a0 x1 h
  | _, _ => none
set_option maxRecDepth 100000 in
theorem eLn_stepsOfRun (a0 : Nat) (x1 : Int32) (h : XH) : qLn_stepsOfRun a0 x1 h = xrun BLn_stepsOfRun (xfind []) 39 0 (List.zip [0, 1] [.ref a0, .int x1]) [] h := rfl
theorem tLn_stepsOfRun : XTo cX3_stepsOfRun 2 RX3 1 1 21 0 [0, 1] (wLn_stepsOfRun (qLn_stepsOfRun)) := by
  refine XTo.run (B := BLn_stepsOfRun) (cut := xfind []) kLn_stepsOfRun (xcuts_ok (fun _ h => absurd h List.not_mem_nil)) 39 (fun vs st h r hr => ?_)
  unfold wLn_stepsOfRun at hr
  split at hr
  · exact (eLn_stepsOfRun _ _ _).symm.trans hr
  · cases hr
def FLn_stepsOfRun : List Value → XH → XR := fun vs h => match vs with
  | [.ref a0, .int x1] => qLn_stepsOfRun a0 x1 h
  | _ => none
theorem SLn_stepsOfRun : XS yX3_stepsOfRun cX3_stepsOfRun 2 (some .int) (xrm 1 21) FLn_stepsOfRun := by
  refine XS.of (own := RX3) (by decide) rfl (rk := 1) rfl (tLn_stepsOfRun) (fun vs h r hr => ?_)
  unfold FLn_stepsOfRun at hr
  split at hr
  · exact ⟨rfl, Nat.le_of_ble_eq_true rfl, hr⟩
  · cases hr
-- LineDiagram$Line.steps()I
def rLn_steps : List (Nat × XRow) := [(0, (.iconst 0, 1, 0, .int (0 : Int32), [])),
  (1, (.istore_n 1, 2, 1, .null, [])),
  (2, (.iconst 0, 3, 0, .int (0 : Int32), [])),
  (3, (.istore_n 2, 4, 2, .null, [])),
  (4, (.iload_n 2, 5, 2, .null, [])),
  (5, (.aload_n 0, 6, 0, .null, [])),
  (6, (.getfield 22, 9, 22, .null, [])),
  (9, (.iconst 1, 10, 0, .int (1 : Int32), [])),
  (10, (.isub, 11, 0, .null, [])),
  (11, (.if_icmp .ge 17, 14, 28, .null, [])),
  (14, (.iload_n 1, 15, 1, .null, [])),
  (15, (.aload_n 0, 16, 0, .null, [])),
  (16, (.iload_n 2, 17, 2, .null, [])),
  (17, (.invokevirtual 53, 20, 53, .null, [])),
  (20, (.iadd, 21, 0, .null, [])),
  (21, (.istore_n 1, 22, 1, .null, [])),
  (22, (.iinc 2 1, 25, 2, .int (1 : Int32), [])),
  (25, (.goto (-21), 28, 4, .null, [])),
  (28, (.iload_n 1, 29, 1, .null, [])),
  (29, (.ireturn, 30, 0, .null, []))]
def mLn_steps : List (Nat × XM) := [(53, (2, 1, some 3, FLn_stepsOfRun))]
abbrev BLn_steps : XB := (rLn_steps, XFT_Ln, mLn_steps, 1, XST_Ln)
set_option maxRecDepth 100000 in
theorem kLn_steps : XOK BLn_steps cX3_steps 3 RX3 2 42 := xok_of (cps := []) (K := XKT_Ln) (by decide +kernel) XKT_Ln_ok (fun _ h => absurd h List.not_mem_nil) XFT_Ln_ok (List.forall_mem_cons.mpr ⟨⟨_, _, _, _, _, _, _, SLn_stepsOfRun, rfl, rfl, Nat.le_of_ble_eq_true rfl, Nat.le_of_ble_eq_true rfl, cdLn_stepsOfRun, lkLn_53, imLn_stepsOfRun, slLn_stepsOfRun, inLn_stepsOfRun, pmLn_stepsOfRun⟩, fun _ h => absurd h List.not_mem_nil⟩) XST_Ln_ok
def wLn_steps_4 (f : Nat → Int32 → Int32 → XH → XR) : List Value → List Value → XH → XR := fun vs st h => match vs, st with
  | [.ref a0, .int x1, .int x2], [] => f a0 x1 x2 h
  | _, _ => none
def wLn_steps (f : Nat → XH → XR) : List Value → List Value → XH → XR := fun vs st h => match vs, st with
  | [.ref a0], [] => f a0 h
  | _, _ => none
set_option maxRecDepth 100000 in
theorem eLn_steps_4_b (k4 : Nat → Int32 → Int32 → XH → XR) (a0 : Nat) (x1 : Int32) (x2 : Int32) (h : XH) : qLn_steps_4_b k4 a0 x1 x2 h = xrun BLn_steps (xfind [(4, ([0, 1, 2], wLn_steps_4 (k4)))]) 23 4 (List.zip [0, 1, 2] [.ref a0, .int x1, .int x2]) [] h := rfl
theorem tLn_steps_4_b {k4 : Nat → Int32 → Int32 → XH → XR} (hk4 : XTo cX3_steps 3 RX3 1 2 42 4 [0, 1, 2] (wLn_steps_4 k4)) : XTo cX3_steps 3 RX3 1 2 42 4 [0, 1, 2] (wLn_steps_4 (qLn_steps_4_b k4)) := by
  refine XTo.run (B := BLn_steps) (cut := xfind [(4, ([0, 1, 2], wLn_steps_4 (k4)))]) kLn_steps (xcuts_ok (List.forall_mem_cons.mpr ⟨hk4, fun _ h => absurd h List.not_mem_nil⟩)) 23 (fun vs st h r hr => ?_)
  unfold wLn_steps_4 at hr
  split at hr
  · exact (eLn_steps_4_b k4 _ _ _ _).symm.trans hr
  · cases hr
theorem tLn_steps_4 : ∀ n : Nat, XTo cX3_steps 3 RX3 1 2 42 4 [0, 1, 2] (wLn_steps_4 (qLn_steps_4 n)) := by
  intro n
  induction n with
  | zero =>
    refine XTo.none fun vs st h => ?_
    unfold wLn_steps_4
    split <;> rfl
  | succ n ih => exact tLn_steps_4_b  ih
set_option maxRecDepth 100000 in
theorem eLn_steps (a0 : Nat) (h : XH) : qLn_steps a0 h = xrun BLn_steps (xfind [(4, ([0, 1, 2], wLn_steps_4 (qLn_steps_4 LF)))]) 23 0 (List.zip [0] [.ref a0]) [] h := rfl
theorem tLn_steps : XTo cX3_steps 3 RX3 1 2 42 0 [0] (wLn_steps (qLn_steps)) := by
  refine XTo.run (B := BLn_steps) (cut := xfind [(4, ([0, 1, 2], wLn_steps_4 (qLn_steps_4 LF)))]) kLn_steps (xcuts_ok (List.forall_mem_cons.mpr ⟨tLn_steps_4 LF, fun _ h => absurd h List.not_mem_nil⟩)) 23 (fun vs st h r hr => ?_)
  unfold wLn_steps at hr
  split at hr
  · exact (eLn_steps _ _).symm.trans hr
  · cases hr
def FLn_steps : List Value → XH → XR := fun vs h => match vs with
  | [.ref a0] => qLn_steps a0 h
  | _ => none
theorem SLn_steps : XS yX3_steps cX3_steps 3 (some .int) (xrm 2 42) FLn_steps := by
  refine XS.of (own := RX3) (by decide) rfl (rk := 1) rfl (tLn_steps) (fun vs h r hr => ?_)
  unfold FLn_steps at hr
  split at hr
  · exact ⟨rfl, Nat.le_of_ble_eq_true rfl, hr⟩
  · cases hr
-- LineDiagram$Line.isShort()Z
def rLn_isShort : List (Nat × XRow) := [(0, (.aload_n 0, 1, 0, .null, [])),
  (1, (.invokevirtual 65, 4, 65, .null, [])),
  (4, (.aload_n 0, 5, 0, .null, [])),
  (5, (.getfield 25, 8, 25, .null, [])),
  (8, (.iconst 1, 9, 0, .int (1 : Int32), [])),
  (9, (.isub, 10, 0, .null, [])),
  (10, (.if_icmp .ge 7, 13, 17, .null, [])),
  (13, (.iconst 1, 14, 0, .int (1 : Int32), [])),
  (14, (.goto 4, 17, 18, .null, [])),
  (17, (.iconst 0, 18, 0, .int (0 : Int32), [])),
  (18, (.ireturn, 19, 0, .null, []))]
def mLn_isShort : List (Nat × XM) := [(65, (1, 1, some 3, FLn_steps))]
abbrev BLn_isShort : XB := (rLn_isShort, XFT_Ln, mLn_isShort, 6, XST_Ln)
set_option maxRecDepth 100000 in
theorem kLn_isShort : XOK BLn_isShort cX3_isShort 1 RX3 3 64 := xok_of (cps := []) (K := XKT_Ln) (by decide +kernel) XKT_Ln_ok (fun _ h => absurd h List.not_mem_nil) XFT_Ln_ok (List.forall_mem_cons.mpr ⟨⟨_, _, _, _, _, _, _, SLn_steps, rfl, rfl, Nat.le_of_ble_eq_true rfl, Nat.le_of_ble_eq_true rfl, cdLn_steps, lkLn_65, imLn_steps, slLn_steps, inLn_steps, pmLn_steps⟩, fun _ h => absurd h List.not_mem_nil⟩) XST_Ln_ok
def wLn_isShort (f : Nat → XH → XR) : List Value → List Value → XH → XR := fun vs st h => match vs, st with
  | [.ref a0], [] => f a0 h
  | _, _ => none
set_option maxRecDepth 100000 in
theorem eLn_isShort (a0 : Nat) (h : XH) : qLn_isShort a0 h = xrun BLn_isShort (xfind []) 14 0 (List.zip [0] [.ref a0]) [] h := rfl
theorem tLn_isShort : XTo cX3_isShort 1 RX3 6 3 64 0 [0] (wLn_isShort (qLn_isShort)) := by
  refine XTo.run (B := BLn_isShort) (cut := xfind []) kLn_isShort (xcuts_ok (fun _ h => absurd h List.not_mem_nil)) 14 (fun vs st h r hr => ?_)
  unfold wLn_isShort at hr
  split at hr
  · exact (eLn_isShort _ _).symm.trans hr
  · cases hr
def FLn_isShort : List Value → XH → XR := fun vs h => match vs with
  | [.ref a0] => qLn_isShort a0 h
  | _ => none
theorem SLn_isShort : XS yX3_isShort cX3_isShort 1 (some .boolean) (xrm 3 64) FLn_isShort := by
  refine XS.of (own := RX3) (by decide) rfl (rk := 6) rfl (tLn_isShort) (fun vs h r hr => ?_)
  unfold FLn_isShort at hr
  split at hr
  · exact ⟨rfl, Nat.le_of_ble_eq_true rfl, hr⟩
  · cases hr
-- LineDiagram$Parser.readPoints(LLineDiagram$Text;LLineDiagram$Plan;LLineDiagram$Line;)Z
def rPs_readPoints : List (Nat × XRow) := [(0, (.iconst 0, 1, 0, .int (0 : Int32), [])),
  (1, (.istore 4, 3, 4, .null, [])),
  (3, (.aload_n 0, 4, 0, .null, [])),
  (4, (.getfield 26, 7, 26, .null, [])),
  (7, (.bipush 10, 9, 0, .int (10 : Int32), [])),
  (9, (.if_icmp .ne 86, 12, 95, .null, [])),
  (12, (.iload 4, 14, 4, .null, [])),
  (14, (.bipush 10, 16, 0, .int (10 : Int32), [])),
  (16, (.if_icmp .ge 79, 19, 95, .null, [])),
  (19, (.aload_n 0, 20, 0, .null, [])),
  (20, (.aload_n 1, 21, 1, .null, [])),
  (21, (.invokevirtual 15, 24, 15, .null, [])),
  (24, (.aload_n 0, 25, 0, .null, [])),
  (25, (.aload_n 1, 26, 1, .null, [])),
  (26, (.iconst 0, 27, 0, .int (0 : Int32), [])),
  (27, (.aload_n 2, 28, 2, .null, [])),
  (28, (.getfield 81, 31, 81, .null, [])),
  (31, (.iconst 1, 32, 0, .int (1 : Int32), [])),
  (32, (.isub, 33, 0, .null, [])),
  (33, (.invokevirtual 49, 36, 49, .null, [])),
  (36, (.ifCond .eq 17, 39, 53, .null, [])),
  (39, (.aload_n 0, 40, 0, .null, [])),
  (40, (.iconst 0, 41, 0, .int (0 : Int32), [])),
  (41, (.aload_n 2, 42, 2, .null, [])),
  (42, (.getfield 84, 45, 84, .null, [])),
  (45, (.iconst 1, 46, 0, .int (1 : Int32), [])),
  (46, (.isub, 47, 0, .null, [])),
  (47, (.invokevirtual 87, 50, 87, .null, [])),
  (50, (.ifCond .ne 5, 53, 55, .null, [])),
  (53, (.iconst 0, 54, 0, .int (0 : Int32), [])),
  (54, (.ireturn, 55, 0, .null, [])),
  (55, (.aload_n 3, 56, 3, .null, [])),
  (56, (.aload_n 3, 57, 3, .null, [])),
  (57, (.getfield 60, 60, 60, .null, [])),
  (60, (.aload_n 0, 61, 0, .null, [])),
  (61, (.getfield 53, 64, 53, .null, [])),
  (64, (.aload_n 0, 65, 0, .null, [])),
  (65, (.getfield 65, 68, 65, .null, [])),
  (68, (.invokevirtual 91, 71, 91, .null, [])),
  (71, (.aload_n 3, 72, 3, .null, [])),
  (72, (.aload_n 2, 73, 2, .null, [])),
  (73, (.getfield 94, 76, 94, .null, [])),
  (76, (.invokevirtual 97, 79, 97, .null, [])),
  (79, (.ifCond .eq 5, 82, 84, .null, [])),
  (82, (.iconst 0, 83, 0, .int (0 : Int32), [])),
  (83, (.ireturn, 84, 0, .null, [])),
  (84, (.aload_n 0, 85, 0, .null, [])),
  (85, (.aload_n 1, 86, 1, .null, [])),
  (86, (.invokevirtual 15, 89, 15, .null, [])),
  (89, (.iinc 4 1, 92, 4, .int (1 : Int32), [])),
  (92, (.goto (-89), 95, 3, .null, [])),
  (95, (.aload_n 3, 96, 3, .null, [])),
  (96, (.getfield 60, 99, 60, .null, [])),
  (99, (.iconst 2, 100, 0, .int (2 : Int32), [])),
  (100, (.if_icmp .lt 23, 103, 123, .null, [])),
  (103, (.aload_n 3, 104, 3, .null, [])),
  (104, (.invokevirtual 101, 107, 101, .null, [])),
  (107, (.ifCond .ne 16, 110, 123, .null, [])),
  (110, (.aload_n 0, 111, 0, .null, [])),
  (111, (.aload_n 1, 112, 1, .null, [])),
  (112, (.iconst 3, 113, 0, .int (3 : Int32), [])),
  (113, (.invokevirtual 45, 116, 45, .null, [])),
  (116, (.ifCond .eq 7, 119, 123, .null, [])),
  (119, (.iconst 1, 120, 0, .int (1 : Int32), [])),
  (120, (.goto 4, 123, 124, .null, [])),
  (123, (.iconst 0, 124, 0, .int (0 : Int32), [])),
  (124, (.ireturn, 125, 0, .null, []))]
def mPs_readPoints : List (Nat × XM) := [(15, (2, 0, some 4, FPs_scan)), (45, (3, 1, some 4, FPs_pass)), (49, (4, 1, some 4, FPs_readNumber)), (87, (3, 1, some 4, FPs_isNumber)), (91, (4, 0, some 3, FLn_insertPoint)), (97, (2, 1, some 3, FLn_isCrooked)), (101, (1, 1, some 3, FLn_isShort))]
abbrev BPs_readPoints : XB := (rPs_readPoints, XFT_Ps, mPs_readPoints, 6, XST_Ps)
set_option maxRecDepth 100000 in
theorem kPs_readPoints : XOK BPs_readPoints cX4_readPoints 5 RX4 4 88 := xok_of (cps := []) (K := XKT_Ps) (by decide +kernel) XKT_Ps_ok (fun _ h => absurd h List.not_mem_nil) XFT_Ps_ok (List.forall_mem_cons.mpr ⟨⟨_, _, _, _, _, _, _, SPs_scan, rfl, rfl, Nat.le_of_ble_eq_true rfl, Nat.le_of_ble_eq_true rfl, cdPs_scan, lkPs_15, imPs_scan, slPs_scan, inPs_scan, pmPs_scan⟩, List.forall_mem_cons.mpr ⟨⟨_, _, _, _, _, _, _, SPs_pass, rfl, rfl, Nat.le_of_ble_eq_true rfl, Nat.le_of_ble_eq_true rfl, cdPs_pass, lkPs_45, imPs_pass, slPs_pass, inPs_pass, pmPs_pass⟩, List.forall_mem_cons.mpr ⟨⟨_, _, _, _, _, _, _, SPs_readNumber, rfl, rfl, Nat.le_of_ble_eq_true rfl, Nat.le_of_ble_eq_true rfl, cdPs_readNumber, lkPs_49, imPs_readNumber, slPs_readNumber, inPs_readNumber, pmPs_readNumber⟩, List.forall_mem_cons.mpr ⟨⟨_, _, _, _, _, _, _, SPs_isNumber, rfl, rfl, Nat.le_of_ble_eq_true rfl, Nat.le_of_ble_eq_true rfl, cdPs_isNumber, lkPs_87, imPs_isNumber, slPs_isNumber, inPs_isNumber, pmPs_isNumber⟩, List.forall_mem_cons.mpr ⟨⟨_, _, _, _, _, _, _, SLn_insertPoint, rfl, rfl, Nat.le_of_ble_eq_true rfl, Nat.le_of_ble_eq_true rfl, cdLn_insertPoint, lkPs_91, imLn_insertPoint, slLn_insertPoint, inLn_insertPoint, pmLn_insertPoint⟩, List.forall_mem_cons.mpr ⟨⟨_, _, _, _, _, _, _, SLn_isCrooked, rfl, rfl, Nat.le_of_ble_eq_true rfl, Nat.le_of_ble_eq_true rfl, cdLn_isCrooked, lkPs_97, imLn_isCrooked, slLn_isCrooked, inLn_isCrooked, pmLn_isCrooked⟩, List.forall_mem_cons.mpr ⟨⟨_, _, _, _, _, _, _, SLn_isShort, rfl, rfl, Nat.le_of_ble_eq_true rfl, Nat.le_of_ble_eq_true rfl, cdLn_isShort, lkPs_101, imLn_isShort, slLn_isShort, inLn_isShort, pmLn_isShort⟩, fun _ h => absurd h List.not_mem_nil⟩⟩⟩⟩⟩⟩⟩) XST_Ps_ok
def wPs_readPoints_95 (f : Nat → Nat → Nat → XH → XR) : List Value → List Value → XH → XR := fun vs st h => match vs, st with
  | [.ref a0, .ref a1, .ref a3], [] => f a0 a1 a3 h
  | _, _ => none
def wPs_readPoints_3 (f : Nat → Nat → Nat → Nat → Int32 → XH → XR) : List Value → List Value → XH → XR := fun vs st h => match vs, st with
  | [.ref a0, .ref a1, .ref a2, .ref a3, .int x4], [] => f a0 a1 a2 a3 x4 h
  | _, _ => none
def wPs_readPoints (f : Nat → Nat → Nat → Nat → XH → XR) : List Value → List Value → XH → XR := fun vs st h => match vs, st with
  | [.ref a0, .ref a1, .ref a2, .ref a3], [] => f a0 a1 a2 a3 h
  | _, _ => none
set_option maxRecDepth 100000 in
theorem ePs_readPoints_95 (a0 : Nat) (a1 : Nat) (a3 : Nat) (h : XH) : qPs_readPoints_95 a0 a1 a3 h = xrun BPs_readPoints (xfind []) 70 95 (List.zip [0, 1, 3] [.ref a0, .ref a1, .ref a3]) [] h := rfl
theorem tPs_readPoints_95 : XTo cX4_readPoints 5 RX4 6 4 88 95 [0, 1, 3] (wPs_readPoints_95 (qPs_readPoints_95)) := by
  refine XTo.run (B := BPs_readPoints) (cut := xfind []) kPs_readPoints (xcuts_ok (fun _ h => absurd h List.not_mem_nil)) 70 (fun vs st h r hr => ?_)
  unfold wPs_readPoints_95 at hr
  split at hr
  · exact (ePs_readPoints_95 _ _ _ _).symm.trans hr
  · cases hr
set_option maxRecDepth 100000 in
theorem ePs_readPoints_3_b (k3 : Nat → Nat → Nat → Nat → Int32 → XH → XR) (a0 : Nat) (a1 : Nat) (a2 : Nat) (a3 : Nat) (x4 : Int32) (h : XH) : qPs_readPoints_3_b k3 a0 a1 a2 a3 x4 h = xrun BPs_readPoints (xfind [(3, ([0, 1, 2, 3, 4], wPs_readPoints_3 (k3))), (95, ([0, 1, 3], wPs_readPoints_95 (qPs_readPoints_95)))]) 70 3 (List.zip [0, 1, 2, 3, 4] [.ref a0, .ref a1, .ref a2, .ref a3, .int x4]) [] h := rfl
theorem tPs_readPoints_3_b {k3 : Nat → Nat → Nat → Nat → Int32 → XH → XR} (hk3 : XTo cX4_readPoints 5 RX4 6 4 88 3 [0, 1, 2, 3, 4] (wPs_readPoints_3 k3)) : XTo cX4_readPoints 5 RX4 6 4 88 3 [0, 1, 2, 3, 4] (wPs_readPoints_3 (qPs_readPoints_3_b k3)) := by
  refine XTo.run (B := BPs_readPoints) (cut := xfind [(3, ([0, 1, 2, 3, 4], wPs_readPoints_3 (k3))), (95, ([0, 1, 3], wPs_readPoints_95 (qPs_readPoints_95)))]) kPs_readPoints (xcuts_ok (List.forall_mem_cons.mpr ⟨hk3, List.forall_mem_cons.mpr ⟨tPs_readPoints_95, fun _ h => absurd h List.not_mem_nil⟩⟩)) 70 (fun vs st h r hr => ?_)
  unfold wPs_readPoints_3 at hr
  split at hr
  · exact (ePs_readPoints_3_b k3 _ _ _ _ _ _).symm.trans hr
  · cases hr
theorem tPs_readPoints_3 : ∀ n : Nat, XTo cX4_readPoints 5 RX4 6 4 88 3 [0, 1, 2, 3, 4] (wPs_readPoints_3 (qPs_readPoints_3 n)) := by
  intro n
  induction n with
  | zero =>
    refine XTo.none fun vs st h => ?_
    unfold wPs_readPoints_3
    split <;> rfl
  | succ n ih => exact tPs_readPoints_3_b  ih
set_option maxRecDepth 100000 in
theorem ePs_readPoints (a0 : Nat) (a1 : Nat) (a2 : Nat) (a3 : Nat) (h : XH) : qPs_readPoints a0 a1 a2 a3 h = xrun BPs_readPoints (xfind [(3, ([0, 1, 2, 3, 4], wPs_readPoints_3 (qPs_readPoints_3 LF)))]) 70 0 (List.zip [0, 1, 2, 3] [.ref a0, .ref a1, .ref a2, .ref a3]) [] h := rfl
theorem tPs_readPoints : XTo cX4_readPoints 5 RX4 6 4 88 0 [0, 1, 2, 3] (wPs_readPoints (qPs_readPoints)) := by
  refine XTo.run (B := BPs_readPoints) (cut := xfind [(3, ([0, 1, 2, 3, 4], wPs_readPoints_3 (qPs_readPoints_3 LF)))]) kPs_readPoints (xcuts_ok (List.forall_mem_cons.mpr ⟨tPs_readPoints_3 LF, fun _ h => absurd h List.not_mem_nil⟩)) 70 (fun vs st h r hr => ?_)
  unfold wPs_readPoints at hr
  split at hr
  · exact (ePs_readPoints _ _ _ _ _).symm.trans hr
  · cases hr
def FPs_readPoints : List Value → XH → XR := fun vs h => match vs with
  | [.ref a0, .ref a1, .ref a2, .ref a3] => qPs_readPoints a0 a1 a2 a3 h
  | _ => none
theorem SPs_readPoints : XS yX4_readPoints cX4_readPoints 5 (some .boolean) (xrm 4 88) FPs_readPoints := by
  refine XS.of (own := RX4) (by decide) rfl (rk := 6) rfl (tPs_readPoints) (fun vs h r hr => ?_)
  unfold FPs_readPoints at hr
  split at hr
  · exact ⟨rfl, Nat.le_of_ble_eq_true rfl, hr⟩
  · cases hr
-- LineDiagram$Parser.parse(LLineDiagram$Text;LLineDiagram$Plan;)I
def rPs_parse : List (Nat × XRow) := [(0, (.aload_n 0, 1, 0, .null, [])),
  (1, (.iconst 0, 2, 0, .int (0 : Int32), [])),
  (2, (.putfield 9, 5, 9, .null, [])),
  (5, (.aload_n 0, 6, 0, .null, [])),
  (6, (.aload_n 1, 7, 1, .null, [])),
  (7, (.invokevirtual 15, 10, 15, .null, [])),
  (10, (.aload_n 0, 11, 0, .null, [])),
  (11, (.aload_n 1, 12, 1, .null, [])),
  (12, (.aload_n 2, 13, 2, .null, [])),
  (13, (.invokevirtual 19, 16, 19, .null, [])),
  (16, (.ifCond .ne 8, 19, 24, .null, [])),
  (19, (.aload_n 0, 20, 0, .null, [])),
  (20, (.getfield 23, 23, 23, .null, [])),
  (23, (.ireturn, 24, 0, .null, [])),
  (24, (.iconst 0, 25, 0, .int (0 : Int32), [])),
  (25, (.istore_n 3, 26, 3, .null, [])),
  (26, (.aload_n 0, 27, 0, .null, [])),
  (27, (.getfield 26, 30, 26, .null, [])),
  (30, (.bipush 7, 32, 0, .int (7 : Int32), [])),
  (32, (.if_icmp .ne 60, 35, 92, .null, [])),
  (35, (.iload_n 3, 36, 3, .null, [])),
  (36, (.bipush 8, 38, 0, .int (8 : Int32), [])),
  (38, (.if_icmp .ge 54, 41, 92, .null, [])),
  (41, (.aload_n 0, 42, 0, .null, [])),
  (42, (.aload_n 1, 43, 1, .null, [])),
  (43, (.aload_n 2, 44, 2, .null, [])),
  (44, (.aload_n 2, 45, 2, .null, [])),
  (45, (.getfield 29, 48, 29, .null, [])),
  (48, (.iload_n 3, 49, 3, .null, [])),
  (49, (.aaload, 50, 0, .null, [])),
  (50, (.invokevirtual 35, 53, 35, .null, [])),
  (53, (.ifCond .eq 18, 56, 71, .null, [])),
  (56, (.aload_n 0, 57, 0, .null, [])),
  (57, (.aload_n 1, 58, 1, .null, [])),
  (58, (.aload_n 2, 59, 2, .null, [])),
  (59, (.aload_n 2, 60, 2, .null, [])),
  (60, (.getfield 29, 63, 29, .null, [])),
  (63, (.iload_n 3, 64, 3, .null, [])),
  (64, (.aaload, 65, 0, .null, [])),
  (65, (.invokevirtual 39, 68, 39, .null, [])),
  (68, (.ifCond .ne 8, 71, 76, .null, [])),
  (71, (.aload_n 0, 72, 0, .null, [])),
  (72, (.getfield 23, 75, 23, .null, [])),
  (75, (.ireturn, 76, 0, .null, [])),
  (76, (.aload_n 2, 77, 2, .null, [])),
  (77, (.dup, 78, 0, .null, [])),
  (78, (.getfield 42, 81, 42, .null, [])),
  (81, (.iconst 1, 82, 0, .int (1 : Int32), [])),
  (82, (.iadd, 83, 0, .null, [])),
  (83, (.putfield 42, 86, 42, .null, [])),
  (86, (.iinc 3 1, 89, 3, .int (1 : Int32), [])),
  (89, (.goto (-63), 92, 26, .null, [])),
  (92, (.aload_n 0, 93, 0, .null, [])),
  (93, (.getfield 26, 96, 26, .null, [])),
  (96, (.ifCond .ne 8, 99, 104, .null, [])),
  (99, (.bipush (-2), 101, 0, .int (-2 : Int32), [])),
  (101, (.goto 7, 104, 108, .null, [])),
  (104, (.aload_n 0, 105, 0, .null, [])),
  (105, (.getfield 23, 108, 23, .null, [])),
  (108, (.ireturn, 109, 0, .null, []))]
def mPs_parse : List (Nat × XM) := [(15, (2, 0, some 4, FPs_scan)), (19, (3, 1, some 4, FPs_readBoard)), (35, (4, 1, some 4, FPs_readHead)), (39, (4, 1, some 4, FPs_readPoints))]
abbrev BPs_parse : XB := (rPs_parse, XFT_Ps, mPs_parse, 1, XST_Ps)
set_option maxRecDepth 100000 in
theorem kPs_parse : XOK BPs_parse cX4_parse 4 RX4 5 112 := xok_of (cps := []) (K := XKT_Ps) (by decide +kernel) XKT_Ps_ok (fun _ h => absurd h List.not_mem_nil) XFT_Ps_ok (List.forall_mem_cons.mpr ⟨⟨_, _, _, _, _, _, _, SPs_scan, rfl, rfl, Nat.le_of_ble_eq_true rfl, Nat.le_of_ble_eq_true rfl, cdPs_scan, lkPs_15, imPs_scan, slPs_scan, inPs_scan, pmPs_scan⟩, List.forall_mem_cons.mpr ⟨⟨_, _, _, _, _, _, _, SPs_readBoard, rfl, rfl, Nat.le_of_ble_eq_true rfl, Nat.le_of_ble_eq_true rfl, cdPs_readBoard, lkPs_19, imPs_readBoard, slPs_readBoard, inPs_readBoard, pmPs_readBoard⟩, List.forall_mem_cons.mpr ⟨⟨_, _, _, _, _, _, _, SPs_readHead, rfl, rfl, Nat.le_of_ble_eq_true rfl, Nat.le_of_ble_eq_true rfl, cdPs_readHead, lkPs_35, imPs_readHead, slPs_readHead, inPs_readHead, pmPs_readHead⟩, List.forall_mem_cons.mpr ⟨⟨_, _, _, _, _, _, _, SPs_readPoints, rfl, rfl, Nat.le_of_ble_eq_true rfl, Nat.le_of_ble_eq_true rfl, cdPs_readPoints, lkPs_39, imPs_readPoints, slPs_readPoints, inPs_readPoints, pmPs_readPoints⟩, fun _ h => absurd h List.not_mem_nil⟩⟩⟩⟩) XST_Ps_ok
def wPs_parse_71 (f : Nat → XH → XR) : List Value → List Value → XH → XR := fun vs st h => match vs, st with
  | [.ref a0], [] => f a0 h
  | _, _ => none
def wPs_parse_92 (f : Nat → XH → XR) : List Value → List Value → XH → XR := fun vs st h => match vs, st with
  | [.ref a0], [] => f a0 h
  | _, _ => none
def wPs_parse_26 (f : Nat → Nat → Nat → Int32 → XH → XR) : List Value → List Value → XH → XR := fun vs st h => match vs, st with
  | [.ref a0, .ref a1, .ref a2, .int x3], [] => f a0 a1 a2 x3 h
  | _, _ => none
def wPs_parse (f : Nat → Nat → Nat → XH → XR) : List Value → List Value → XH → XR := fun vs st h => match vs, st with
  | [.ref a0, .ref a1, .ref a2], [] => f a0 a1 a2 h
  | _, _ => none
set_option maxRecDepth 100000 in
theorem ePs_parse_71 (a0 : Nat) (h : XH) : qPs_parse_71 a0 h = xrun BPs_parse (xfind []) 63 71 (List.zip [0] [.ref a0]) [] h := rfl
theorem tPs_parse_71 : XTo cX4_parse 4 RX4 1 5 112 71 [0] (wPs_parse_71 (qPs_parse_71)) := by
  refine XTo.run (B := BPs_parse) (cut := xfind []) kPs_parse (xcuts_ok (fun _ h => absurd h List.not_mem_nil)) 63 (fun vs st h r hr => ?_)
  unfold wPs_parse_71 at hr
  split at hr
  · exact (ePs_parse_71 _ _).symm.trans hr
  · cases hr
set_option maxRecDepth 100000 in
theorem ePs_parse_92 (a0 : Nat) (h : XH) : qPs_parse_92 a0 h = xrun BPs_parse (xfind []) 63 92 (List.zip [0] [.ref a0]) [] h := rfl
theorem tPs_parse_92 : XTo cX4_parse 4 RX4 1 5 112 92 [0] (wPs_parse_92 (qPs_parse_92)) := by
  refine XTo.run (B := BPs_parse) (cut := xfind []) kPs_parse (xcuts_ok (fun _ h => absurd h List.not_mem_nil)) 63 (fun vs st h r hr => ?_)
  unfold wPs_parse_92 at hr
  split at hr
  · exact (ePs_parse_92 _ _).symm.trans hr
  · cases hr
set_option maxRecDepth 100000 in
theorem ePs_parse_26_b (k26 : Nat → Nat → Nat → Int32 → XH → XR) (a0 : Nat) (a1 : Nat) (a2 : Nat) (x3 : Int32) (h : XH) : qPs_parse_26_b k26 a0 a1 a2 x3 h = xrun BPs_parse (xfind [(26, ([0, 1, 2, 3], wPs_parse_26 (k26))), (71, ([0], wPs_parse_71 (qPs_parse_71))), (92, ([0], wPs_parse_92 (qPs_parse_92)))]) 63 26 (List.zip [0, 1, 2, 3] [.ref a0, .ref a1, .ref a2, .int x3]) [] h := rfl
theorem tPs_parse_26_b {k26 : Nat → Nat → Nat → Int32 → XH → XR} (hk26 : XTo cX4_parse 4 RX4 1 5 112 26 [0, 1, 2, 3] (wPs_parse_26 k26)) : XTo cX4_parse 4 RX4 1 5 112 26 [0, 1, 2, 3] (wPs_parse_26 (qPs_parse_26_b k26)) := by
  refine XTo.run (B := BPs_parse) (cut := xfind [(26, ([0, 1, 2, 3], wPs_parse_26 (k26))), (71, ([0], wPs_parse_71 (qPs_parse_71))), (92, ([0], wPs_parse_92 (qPs_parse_92)))]) kPs_parse (xcuts_ok (List.forall_mem_cons.mpr ⟨hk26, List.forall_mem_cons.mpr ⟨tPs_parse_71, List.forall_mem_cons.mpr ⟨tPs_parse_92, fun _ h => absurd h List.not_mem_nil⟩⟩⟩)) 63 (fun vs st h r hr => ?_)
  unfold wPs_parse_26 at hr
  split at hr
  · exact (ePs_parse_26_b k26 _ _ _ _ _).symm.trans hr
  · cases hr
theorem tPs_parse_26 : ∀ n : Nat, XTo cX4_parse 4 RX4 1 5 112 26 [0, 1, 2, 3] (wPs_parse_26 (qPs_parse_26 n)) := by
  intro n
  induction n with
  | zero =>
    refine XTo.none fun vs st h => ?_
    unfold wPs_parse_26
    split <;> rfl
  | succ n ih => exact tPs_parse_26_b  ih
set_option maxRecDepth 100000 in
theorem ePs_parse (a0 : Nat) (a1 : Nat) (a2 : Nat) (h : XH) : qPs_parse a0 a1 a2 h = xrun BPs_parse (xfind [(26, ([0, 1, 2, 3], wPs_parse_26 (qPs_parse_26 LF)))]) 63 0 (List.zip [0, 1, 2] [.ref a0, .ref a1, .ref a2]) [] h := rfl
theorem tPs_parse : XTo cX4_parse 4 RX4 1 5 112 0 [0, 1, 2] (wPs_parse (qPs_parse)) := by
  refine XTo.run (B := BPs_parse) (cut := xfind [(26, ([0, 1, 2, 3], wPs_parse_26 (qPs_parse_26 LF)))]) kPs_parse (xcuts_ok (List.forall_mem_cons.mpr ⟨tPs_parse_26 LF, fun _ h => absurd h List.not_mem_nil⟩)) 63 (fun vs st h r hr => ?_)
  unfold wPs_parse at hr
  split at hr
  · exact (ePs_parse _ _ _ _).symm.trans hr
  · cases hr
def FPs_parse : List Value → XH → XR := fun vs h => match vs with
  | [.ref a0, .ref a1, .ref a2] => qPs_parse a0 a1 a2 h
  | _ => none
theorem SPs_parse : XS yX4_parse cX4_parse 4 (some .int) (xrm 5 112) FPs_parse := by
  refine XS.of (own := RX4) (by decide) rfl (rk := 1) rfl (tPs_parse) (fun vs h r hr => ?_)
  unfold FPs_parse at hr
  split at hr
  · exact ⟨rfl, Nat.le_of_ble_eq_true rfl, hr⟩
  · cases hr
-- LineDiagram$Line.copyFrom(LLineDiagram$Line;)V
def rLn_copyFrom : List (Nat × XRow) := [(0, (.aload_n 0, 1, 0, .null, [])),
  (1, (.aload_n 1, 2, 1, .null, [])),
  (2, (.getfield 18, 5, 18, .null, [])),
  (5, (.putfield 18, 8, 18, .null, [])),
  (8, (.aload_n 0, 9, 0, .null, [])),
  (9, (.aload_n 1, 10, 1, .null, [])),
  (10, (.getfield 22, 13, 22, .null, [])),
  (13, (.putfield 22, 16, 22, .null, [])),
  (16, (.aload_n 0, 17, 0, .null, [])),
  (17, (.aload_n 1, 18, 1, .null, [])),
  (18, (.getfield 25, 21, 25, .null, [])),
  (21, (.putfield 25, 24, 25, .null, [])),
  (24, (.aload_n 0, 25, 0, .null, [])),
  (25, (.aload_n 1, 26, 1, .null, [])),
  (26, (.getfield 28, 29, 28, .null, [])),
  (29, (.putfield 28, 32, 28, .null, [])),
  (32, (.aload_n 1, 33, 1, .null, [])),
  (33, (.getfield 9, 36, 9, .null, [])),
  (36, (.iconst 0, 37, 0, .int (0 : Int32), [])),
  (37, (.aload_n 0, 38, 0, .null, [])),
  (38, (.getfield 9, 41, 9, .null, [])),
  (41, (.iconst 0, 42, 0, .int (0 : Int32), [])),
  (42, (.bipush 10, 44, 0, .int (10 : Int32), [])),
  (44, (.invokestatic 31, 47, 31, .int (9 : Int32), [])),
  (47, (.aload_n 1, 48, 1, .null, [])),
  (48, (.getfield 15, 51, 15, .null, [])),
  (51, (.iconst 0, 52, 0, .int (0 : Int32), [])),
  (52, (.aload_n 0, 53, 0, .null, [])),
  (53, (.getfield 15, 56, 15, .null, [])),
  (56, (.iconst 0, 57, 0, .int (0 : Int32), [])),
  (57, (.bipush 10, 59, 0, .int (10 : Int32), [])),
  (59, (.invokestatic 31, 62, 31, .int (9 : Int32), [])),
  (62, (.return_, 63, 0, .null, []))]
def mLn_copyFrom : List (Nat × XM) := []
abbrev BLn_copyFrom : XB := (rLn_copyFrom, XFT_Ln, mLn_copyFrom, 0, XST_Ln)
set_option maxRecDepth 100000 in
theorem kLn_copyFrom : XOK BLn_copyFrom cX3_copyFrom 2 RX3 1 64 := xok_of (cps := [(31, 9)]) (K := XKT_Ln) (by decide +kernel) XKT_Ln_ok (List.forall_mem_cons.mpr ⟨lkLn_cp31 _ _ (Nat.le_of_ble_eq_true rfl) (Nat.le_of_ble_eq_true rfl), fun _ h => absurd h List.not_mem_nil⟩) XFT_Ln_ok (fun _ h => absurd h List.not_mem_nil) XST_Ln_ok
def wLn_copyFrom (f : Nat → Nat → XH → XR) : List Value → List Value → XH → XR := fun vs st h => match vs, st with
  | [.ref a0, .ref a1], [] => f a0 a1 h
  | _, _ => none
set_option maxRecDepth 100000 in
theorem eLn_copyFrom (a0 : Nat) (a1 : Nat) (h : XH) : qLn_copyFrom a0 a1 h = xrun BLn_copyFrom (xfind []) 36 0 (List.zip [0, 1] [.ref a0, .ref a1]) [] h := rfl
theorem tLn_copyFrom : XTo cX3_copyFrom 2 RX3 0 1 64 0 [0, 1] (wLn_copyFrom (qLn_copyFrom)) := by
  refine XTo.run (B := BLn_copyFrom) (cut := xfind []) kLn_copyFrom (xcuts_ok (fun _ h => absurd h List.not_mem_nil)) 36 (fun vs st h r hr => ?_)
  unfold wLn_copyFrom at hr
  split at hr
  · exact (eLn_copyFrom _ _ _).symm.trans hr
  · cases hr
def FLn_copyFrom : List Value → XH → XR := fun vs h => match vs with
  | [.ref a0, .ref a1] => qLn_copyFrom a0 a1 h
  | _ => none
theorem SLn_copyFrom : XS yX3_copyFrom cX3_copyFrom 2 none (xrm 1 64) FLn_copyFrom := by
  refine XS.of (own := RX3) (by decide) rfl (rk := 0) rfl (tLn_copyFrom) (fun vs h r hr => ?_)
  unfold FLn_copyFrom at hr
  split at hr
  · exact ⟨rfl, Nat.le_of_ble_eq_true rfl, hr⟩
  · cases hr
-- LineDiagram$Labels.copyFrom(LLineDiagram$Labels;)V
def rLb_copyFrom : List (Nat × XRow) := [(0, (.aload_n 0, 1, 0, .null, [])),
  (1, (.aload_n 1, 2, 1, .null, [])),
  (2, (.getfield 18, 5, 18, .null, [])),
  (5, (.putfield 18, 8, 18, .null, [])),
  (8, (.aload_n 1, 9, 1, .null, [])),
  (9, (.getfield 9, 12, 9, .null, [])),
  (12, (.iconst 0, 13, 0, .int (0 : Int32), [])),
  (13, (.aload_n 0, 14, 0, .null, [])),
  (14, (.getfield 9, 17, 9, .null, [])),
  (17, (.iconst 0, 18, 0, .int (0 : Int32), [])),
  (18, (.sipush 160, 21, 0, .int (160 : Int32), [])),
  (21, (.invokestatic 22, 24, 22, .int (9 : Int32), [])),
  (24, (.aload_n 1, 25, 1, .null, [])),
  (25, (.getfield 15, 28, 15, .null, [])),
  (28, (.iconst 0, 29, 0, .int (0 : Int32), [])),
  (29, (.aload_n 0, 30, 0, .null, [])),
  (30, (.getfield 15, 33, 15, .null, [])),
  (33, (.iconst 0, 34, 0, .int (0 : Int32), [])),
  (34, (.sipush 160, 37, 0, .int (160 : Int32), [])),
  (37, (.invokestatic 22, 40, 22, .int (9 : Int32), [])),
  (40, (.return_, 41, 0, .null, []))]
def mLb_copyFrom : List (Nat × XM) := []
abbrev BLb_copyFrom : XB := (rLb_copyFrom, XFT_Lb, mLb_copyFrom, 0, XST_Lb)
set_option maxRecDepth 100000 in
theorem kLb_copyFrom : XOK BLb_copyFrom cX2_copyFrom 2 RX2 1 64 := xok_of (cps := [(22, 9)]) (K := XKT_Lb) (by decide +kernel) XKT_Lb_ok (List.forall_mem_cons.mpr ⟨lkLb_cp22 _ _ (Nat.le_of_ble_eq_true rfl) (Nat.le_of_ble_eq_true rfl), fun _ h => absurd h List.not_mem_nil⟩) XFT_Lb_ok (fun _ h => absurd h List.not_mem_nil) XST_Lb_ok
def wLb_copyFrom (f : Nat → Nat → XH → XR) : List Value → List Value → XH → XR := fun vs st h => match vs, st with
  | [.ref a0, .ref a1], [] => f a0 a1 h
  | _, _ => none
set_option maxRecDepth 100000 in
theorem eLb_copyFrom (a0 : Nat) (a1 : Nat) (h : XH) : qLb_copyFrom a0 a1 h = xrun BLb_copyFrom (xfind []) 24 0 (List.zip [0, 1] [.ref a0, .ref a1]) [] h := rfl
theorem tLb_copyFrom : XTo cX2_copyFrom 2 RX2 0 1 64 0 [0, 1] (wLb_copyFrom (qLb_copyFrom)) := by
  refine XTo.run (B := BLb_copyFrom) (cut := xfind []) kLb_copyFrom (xcuts_ok (fun _ h => absurd h List.not_mem_nil)) 24 (fun vs st h r hr => ?_)
  unfold wLb_copyFrom at hr
  split at hr
  · exact (eLb_copyFrom _ _ _).symm.trans hr
  · cases hr
def FLb_copyFrom : List Value → XH → XR := fun vs h => match vs with
  | [.ref a0, .ref a1] => qLb_copyFrom a0 a1 h
  | _ => none
theorem SLb_copyFrom : XS yX2_copyFrom cX2_copyFrom 2 none (xrm 1 64) FLb_copyFrom := by
  refine XS.of (own := RX2) (by decide) rfl (rk := 0) rfl (tLb_copyFrom) (fun vs h r hr => ?_)
  unfold FLb_copyFrom at hr
  split at hr
  · exact ⟨rfl, Nat.le_of_ble_eq_true rfl, hr⟩
  · cases hr
