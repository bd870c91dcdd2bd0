-- LineDiagram$Plan.describeLine(LLineDiagram$Line;LLineDiagram$Text;)V
def rP_describeLine : List (Nat × XRow) := [(0, (.aload_n 1, 1, 1, .null, [])),
  (1, (.ldc 78, 3, 78, .null, [])),
  (3, (.invokevirtual 61, 6, 61, .null, [])),
  (6, (.aload_n 1, 7, 1, .null, [])),
  (7, (.aload_n 0, 8, 0, .null, [])),
  (8, (.getfield 51, 11, 51, .null, [])),
  (11, (.invokevirtual 80, 14, 80, .null, [])),
  (14, (.aload_n 1, 15, 1, .null, [])),
  (15, (.ldc 83, 17, 83, .null, [])),
  (17, (.invokevirtual 61, 20, 61, .null, [])),
  (20, (.aload_n 1, 21, 1, .null, [])),
  (21, (.aload_n 0, 22, 0, .null, [])),
  (22, (.getfield 85, 25, 85, .null, [])),
  (25, (.invokevirtual 65, 28, 65, .null, [])),
  (28, (.aload_n 1, 29, 1, .null, [])),
  (29, (.ldc 88, 31, 88, .null, [])),
  (31, (.invokevirtual 61, 34, 61, .null, [])),
  (34, (.aload_n 1, 35, 1, .null, [])),
  (35, (.aload_n 0, 36, 0, .null, [])),
  (36, (.getfield 48, 39, 48, .null, [])),
  (39, (.invokevirtual 65, 42, 65, .null, [])),
  (42, (.iconst 0, 43, 0, .int (0 : Int32), [])),
  (43, (.istore_n 2, 44, 2, .null, [])),
  (44, (.iload_n 2, 45, 2, .null, [])),
  (45, (.aload_n 0, 46, 0, .null, [])),
  (46, (.getfield 90, 49, 90, .null, [])),
  (49, (.if_icmp .ge 35, 52, 84, .null, [])),
  (52, (.aload_n 1, 53, 1, .null, [])),
  (53, (.ldc 93, 55, 93, .null, [])),
  (55, (.invokevirtual 61, 58, 61, .null, [])),
  (58, (.aload_n 1, 59, 1, .null, [])),
  (59, (.aload_n 0, 60, 0, .null, [])),
  (60, (.getfield 95, 63, 95, .null, [])),
  (63, (.iload_n 2, 64, 2, .null, [])),
  (64, (.iaload, 65, 0, .null, [])),
  (65, (.invokevirtual 65, 68, 65, .null, [])),
  (68, (.aload_n 1, 69, 1, .null, [])),
  (69, (.aload_n 0, 70, 0, .null, [])),
  (70, (.getfield 99, 73, 99, .null, [])),
  (73, (.iload_n 2, 74, 2, .null, [])),
  (74, (.iaload, 75, 0, .null, [])),
  (75, (.invokevirtual 65, 78, 65, .null, [])),
  (78, (.iinc 2 1, 81, 2, .int (1 : Int32), [])),
  (81, (.goto (-37), 84, 44, .null, [])),
  (84, (.aload_n 1, 85, 1, .null, [])),
  (85, (.bipush 59, 87, 0, .int (59 : Int32), [])),
  (87, (.invokevirtual 71, 90, 71, .null, [])),
  (90, (.return_, 91, 0, .null, []))]
def mP_describeLine : List (Nat × XM) := [(61, (2, 0, some 6, FT_addWord)), (65, (2, 0, some 6, FT_addNumber)), (71, (2, 0, some 6, FT_addByte)), (80, (2, 0, some 6, FT_addName))]
abbrev BP_describeLine : XB := (rP_describeLine, XFT_P, mP_describeLine, 0, XST_P)
set_option maxRecDepth 100000 in
theorem kP_describeLine : XOK BP_describeLine cX5_describeLine 3 RX5 5 107 := xok_of (cps := []) (K := XKT_P) (by decide +kernel) XKT_P_ok (fun _ h => absurd h List.not_mem_nil) XFT_P_ok (List.forall_mem_cons.mpr ⟨⟨_, _, _, _, _, _, _, ST_addWord, rfl, rfl, Nat.le_of_ble_eq_true rfl, Nat.le_of_ble_eq_true rfl, cdT_addWord, lkP_61, imT_addWord, slT_addWord, inT_addWord, pmT_addWord⟩, List.forall_mem_cons.mpr ⟨⟨_, _, _, _, _, _, _, ST_addNumber, rfl, rfl, Nat.le_of_ble_eq_true rfl, Nat.le_of_ble_eq_true rfl, cdT_addNumber, lkP_65, imT_addNumber, slT_addNumber, inT_addNumber, pmT_addNumber⟩, List.forall_mem_cons.mpr ⟨⟨_, _, _, _, _, _, _, ST_addByte, rfl, rfl, Nat.le_of_ble_eq_true rfl, Nat.le_of_ble_eq_true rfl, cdT_addByte, lkP_71, imT_addByte, slT_addByte, inT_addByte, pmT_addByte⟩, List.forall_mem_cons.mpr ⟨⟨_, _, _, _, _, _, _, ST_addName, rfl, rfl, Nat.le_of_ble_eq_true rfl, Nat.le_of_ble_eq_true rfl, cdT_addName, lkP_80, imT_addName, slT_addName, inT_addName, pmT_addName⟩, fun _ h => absurd h List.not_mem_nil⟩⟩⟩⟩) XST_P_ok
def wP_describeLine_84 (f : Nat → XH → XR) : List Value → List Value → XH → XR := fun vs st h => match vs, st with
  | [.ref a1], [] => f a1 h
  | _, _ => none
def wP_describeLine_44 (f : Nat → Nat → Int32 → XH → XR) : List Value → List Value → XH → XR := fun vs st h => match vs, st with
  | [.ref a0, .ref a1, .int x2], [] => f a0 a1 x2 h
  | _, _ => none
def wP_describeLine (f : Nat → Nat → XH → XR) : List Value → List Value → XH → XR := fun vs st h => match vs, st with
  | [.ref a0, .ref a1], [] => f a0 a1 h
  | _, _ => none
set_option maxRecDepth 100000 in
theorem eP_describeLine_84 (a1 : Nat) (h : XH) : qP_describeLine_84 a1 h = xrun BP_describeLine (xfind []) 51 84 (List.zip [1] [.ref a1]) [] h := rfl
theorem tP_describeLine_84 : XTo cX5_describeLine 3 RX5 0 5 107 84 [1] (wP_describeLine_84 (qP_describeLine_84)) := by
  refine XTo.run (B := BP_describeLine) (cut := xfind []) kP_describeLine (xcuts_ok (fun _ h => absurd h List.not_mem_nil)) 51 (fun vs st h r hr => ?_)
  unfold wP_describeLine_84 at hr
  split at hr
  · exact (eP_describeLine_84 _ _).symm.trans hr
  · cases hr
set_option maxRecDepth 100000 in
theorem eP_describeLine_44_b (k44 : Nat → Nat → Int32 → XH → XR) (a0 : Nat) (a1 : Nat) (x2 : Int32) (h : XH) : qP_describeLine_44_b k44 a0 a1 x2 h = xrun BP_describeLine (xfind [(44, ([0, 1, 2], wP_describeLine_44 (k44))), (84, ([1], wP_describeLine_84 (qP_describeLine_84)))]) 51 44 (List.zip [0, 1, 2] [.ref a0, .ref a1, .int x2]) [] h := rfl
theorem tP_describeLine_44_b {k44 : Nat → Nat → Int32 → XH → XR} (hk44 : XTo cX5_describeLine 3 RX5 0 5 107 44 [0, 1, 2] (wP_describeLine_44 k44)) : XTo cX5_describeLine 3 RX5 0 5 107 44 [0, 1, 2] (wP_describeLine_44 (qP_describeLine_44_b k44)) := by
  refine XTo.run (B := BP_describeLine) (cut := xfind [(44, ([0, 1, 2], wP_describeLine_44 (k44))), (84, ([1], wP_describeLine_84 (qP_describeLine_84)))]) kP_describeLine (xcuts_ok (List.forall_mem_cons.mpr ⟨hk44, List.forall_mem_cons.mpr ⟨tP_describeLine_84, fun _ h => absurd h List.not_mem_nil⟩⟩)) 51 (fun vs st h r hr => ?_)
  unfold wP_describeLine_44 at hr
  split at hr
  · exact (eP_describeLine_44_b k44 _ _ _ _).symm.trans hr
  · cases hr
theorem tP_describeLine_44 : ∀ n : Nat, XTo cX5_describeLine 3 RX5 0 5 107 44 [0, 1, 2] (wP_describeLine_44 (qP_describeLine_44 n)) := by
  intro n
  induction n with
  | zero =>
    refine XTo.none fun vs st h => ?_
    unfold wP_describeLine_44
    split <;> rfl
  | succ n ih => exact tP_describeLine_44_b  ih
set_option maxRecDepth 100000 in
theorem eP_describeLine (a0 : Nat) (a1 : Nat) (h : XH) : qP_describeLine a0 a1 h = xrun BP_describeLine (xfind [(44, ([0, 1, 2], wP_describeLine_44 (qP_describeLine_44 LF)))]) 51 0 (List.zip [0, 1] [.ref a0, .ref a1]) [] h := rfl
theorem tP_describeLine : XTo cX5_describeLine 3 RX5 0 5 107 0 [0, 1] (wP_describeLine (qP_describeLine)) := by
  refine XTo.run (B := BP_describeLine) (cut := xfind [(44, ([0, 1, 2], wP_describeLine_44 (qP_describeLine_44 LF)))]) kP_describeLine (xcuts_ok (List.forall_mem_cons.mpr ⟨tP_describeLine_44 LF, fun _ h => absurd h List.not_mem_nil⟩)) 51 (fun vs st h r hr => ?_)
  unfold wP_describeLine at hr
  split at hr
  · exact (eP_describeLine _ _ _).symm.trans hr
  · cases hr
def FP_describeLine : List Value → XH → XR := fun vs h => match vs with
  | [.ref a0, .ref a1] => qP_describeLine a0 a1 h
  | _ => none
theorem SP_describeLine : XS yX5_describeLine cX5_describeLine 3 none (xrm 5 107) FP_describeLine := by
  refine XS.of (own := RX5) (by decide) rfl (rk := 0) rfl (tP_describeLine) (fun vs h r hr => ?_)
  unfold FP_describeLine at hr
  split at hr
  · exact ⟨rfl, Nat.le_of_ble_eq_true rfl, hr⟩
  · cases hr
-- LineDiagram$Plan.describe(LLineDiagram$Text;)V
def rP_describe : List (Nat × XRow) := [(0, (.aload_n 1, 1, 1, .null, [])),
  (1, (.iconst 0, 2, 0, .int (0 : Int32), [])),
  (2, (.putfield 54, 5, 54, .null, [])),
  (5, (.aload_n 1, 6, 1, .null, [])),
  (6, (.ldc 59, 8, 59, .null, [])),
  (8, (.invokevirtual 61, 11, 61, .null, [])),
  (11, (.aload_n 1, 12, 1, .null, [])),
  (12, (.aload_n 0, 13, 0, .null, [])),
  (13, (.getfield 25, 16, 25, .null, [])),
  (16, (.invokevirtual 65, 19, 65, .null, [])),
  (19, (.aload_n 1, 20, 1, .null, [])),
  (20, (.aload_n 0, 21, 0, .null, [])),
  (21, (.getfield 29, 24, 29, .null, [])),
  (24, (.invokevirtual 65, 27, 65, .null, [])),
  (27, (.aload_n 1, 28, 1, .null, [])),
  (28, (.ldc 69, 30, 69, .null, [])),
  (30, (.invokevirtual 61, 33, 61, .null, [])),
  (33, (.aload_n 1, 34, 1, .null, [])),
  (34, (.aload_n 0, 35, 0, .null, [])),
  (35, (.getfield 32, 38, 32, .null, [])),
  (38, (.invokevirtual 65, 41, 65, .null, [])),
  (41, (.aload_n 1, 42, 1, .null, [])),
  (42, (.bipush 59, 44, 0, .int (59 : Int32), [])),
  (44, (.invokevirtual 71, 47, 71, .null, [])),
  (47, (.iconst 0, 48, 0, .int (0 : Int32), [])),
  (48, (.istore_n 2, 49, 2, .null, [])),
  (49, (.iload_n 2, 50, 2, .null, [])),
  (50, (.aload_n 0, 51, 0, .null, [])),
  (51, (.getfield 35, 54, 35, .null, [])),
  (54, (.if_icmp .ge 19, 57, 73, .null, [])),
  (57, (.aload_n 0, 58, 0, .null, [])),
  (58, (.getfield 11, 61, 11, .null, [])),
  (61, (.iload_n 2, 62, 2, .null, [])),
  (62, (.aaload, 63, 0, .null, [])),
  (63, (.aload_n 1, 64, 1, .null, [])),
  (64, (.invokestatic 74, 67, 74, .null, [])),
  (67, (.iinc 2 1, 70, 2, .int (1 : Int32), [])),
  (70, (.goto (-21), 73, 49, .null, [])),
  (73, (.return_, 74, 0, .null, []))]
def mP_describe : List (Nat × XM) := [(61, (2, 0, some 6, FT_addWord)), (65, (2, 0, some 6, FT_addNumber)), (71, (2, 0, some 6, FT_addByte)), (74, (2, 0, none, FP_describeLine))]
abbrev BP_describe : XB := (rP_describe, XFT_P, mP_describe, 0, XST_P)
set_option maxRecDepth 100000 in
theorem kP_describe : XOK BP_describe cX5_describe 3 RX5 6 129 := xok_of (cps := []) (K := XKT_P) (by decide +kernel) XKT_P_ok (fun _ h => absurd h List.not_mem_nil) XFT_P_ok (List.forall_mem_cons.mpr ⟨⟨_, _, _, _, _, _, _, ST_addWord, rfl, rfl, Nat.le_of_ble_eq_true rfl, Nat.le_of_ble_eq_true rfl, cdT_addWord, lkP_61, imT_addWord, slT_addWord, inT_addWord, pmT_addWord⟩, List.forall_mem_cons.mpr ⟨⟨_, _, _, _, _, _, _, ST_addNumber, rfl, rfl, Nat.le_of_ble_eq_true rfl, Nat.le_of_ble_eq_true rfl, cdT_addNumber, lkP_65, imT_addNumber, slT_addNumber, inT_addNumber, pmT_addNumber⟩, List.forall_mem_cons.mpr ⟨⟨_, _, _, _, _, _, _, ST_addByte, rfl, rfl, Nat.le_of_ble_eq_true rfl, Nat.le_of_ble_eq_true rfl, cdT_addByte, lkP_71, imT_addByte, slT_addByte, inT_addByte, pmT_addByte⟩, List.forall_mem_cons.mpr ⟨⟨_, _, _, _, _, _, SP_describeLine, Nat.le_of_ble_eq_true rfl, Nat.le_of_ble_eq_true rfl, cdP_describeLine, lkP_74, imP_describeLine, inP_describeLine, pmP_describeLine⟩, fun _ h => absurd h List.not_mem_nil⟩⟩⟩⟩) XST_P_ok
def wP_describe_49 (f : Nat → Nat → Int32 → XH → XR) : List Value → List Value → XH → XR := fun vs st h => match vs, st with
  | [.ref a0, .ref a1, .int x2], [] => f a0 a1 x2 h
  | _, _ => none
def wP_describe (f : Nat → Nat → XH → XR) : List Value → List Value → XH → XR := fun vs st h => match vs, st with
  | [.ref a0, .ref a1], [] => f a0 a1 h
  | _, _ => none
set_option maxRecDepth 100000 in
theorem eP_describe_49_b (k49 : Nat → Nat → Int32 → XH → XR) (a0 : Nat) (a1 : Nat) (x2 : Int32) (h : XH) : qP_describe_49_b k49 a0 a1 x2 h = xrun BP_describe (xfind [(49, ([0, 1, 2], wP_describe_49 (k49)))]) 42 49 (List.zip [0, 1, 2] [.ref a0, .ref a1, .int x2]) [] h := rfl
theorem tP_describe_49_b {k49 : Nat → Nat → Int32 → XH → XR} (hk49 : XTo cX5_describe 3 RX5 0 6 129 49 [0, 1, 2] (wP_describe_49 k49)) : XTo cX5_describe 3 RX5 0 6 129 49 [0, 1, 2] (wP_describe_49 (qP_describe_49_b k49)) := by
  refine XTo.run (B := BP_describe) (cut := xfind [(49, ([0, 1, 2], wP_describe_49 (k49)))]) kP_describe (xcuts_ok (List.forall_mem_cons.mpr ⟨hk49, fun _ h => absurd h List.not_mem_nil⟩)) 42 (fun vs st h r hr => ?_)
  unfold wP_describe_49 at hr
  split at hr
  · exact (eP_describe_49_b k49 _ _ _ _).symm.trans hr
  · cases hr
theorem tP_describe_49 : ∀ n : Nat, XTo cX5_describe 3 RX5 0 6 129 49 [0, 1, 2] (wP_describe_49 (qP_describe_49 n)) := by
  intro n
  induction n with
  | zero =>
    refine XTo.none fun vs st h => ?_
    unfold wP_describe_49
    split <;> rfl
  | succ n ih => exact tP_describe_49_b  ih
set_option maxRecDepth 100000 in
theorem eP_describe (a0 : Nat) (a1 : Nat) (h : XH) : qP_describe a0 a1 h = xrun BP_describe (xfind [(49, ([0, 1, 2], wP_describe_49 (qP_describe_49 LF)))]) 42 0 (List.zip [0, 1] [.ref a0, .ref a1]) [] h := rfl
theorem tP_describe : XTo cX5_describe 3 RX5 0 6 129 0 [0, 1] (wP_describe (qP_describe)) := by
  refine XTo.run (B := BP_describe) (cut := xfind [(49, ([0, 1, 2], wP_describe_49 (qP_describe_49 LF)))]) kP_describe (xcuts_ok (List.forall_mem_cons.mpr ⟨tP_describe_49 LF, fun _ h => absurd h List.not_mem_nil⟩)) 42 (fun vs st h r hr => ?_)
  unfold wP_describe at hr
  split at hr
  · exact (eP_describe _ _ _).symm.trans hr
  · cases hr
def FP_describe : List Value → XH → XR := fun vs h => match vs with
  | [.ref a0, .ref a1] => qP_describe a0 a1 h
  | _ => none
theorem SP_describe : XS yX5_describe cX5_describe 3 none (xrm 6 129) FP_describe := by
  refine XS.of (own := RX5) (by decide) rfl (rk := 0) rfl (tP_describe) (fun vs h r hr => ?_)
  unfold FP_describe at hr
  split at hr
  · exact ⟨rfl, Nat.le_of_ble_eq_true rfl, hr⟩
  · cases hr
-- LineDiagram.setupLength()I
def rD_setupLength : List (Nat × XRow) := [(0, (.aload_n 0, 1, 0, .null, [])),
  (1, (.getfield 29, 4, 29, .null, [])),
  (4, (.aload_n 0, 5, 0, .null, [])),
  (5, (.getfield 16, 8, 16, .null, [])),
  (8, (.invokevirtual 339, 11, 339, .null, [])),
  (11, (.aload_n 0, 12, 0, .null, [])),
  (12, (.getfield 16, 15, 16, .null, [])),
  (15, (.getfield 83, 18, 83, .null, [])),
  (18, (.ireturn, 19, 0, .null, []))]
def mD_setupLength : List (Nat × XM) := [(339, (2, 0, some 5, FP_describe))]
abbrev BD_setupLength : XB := (rD_setupLength, XFT_D, mD_setupLength, 1, XST_D)
set_option maxRecDepth 100000 in
theorem kD_setupLength : XOK BD_setupLength cX8_setupLength 1 RX8 7 151 := xok_of (cps := []) (K := XKT_D) (by decide +kernel) XKT_D_ok (fun _ h => absurd h List.not_mem_nil) XFT_D_ok (List.forall_mem_cons.mpr ⟨⟨_, _, _, _, _, _, _, SP_describe, rfl, rfl, Nat.le_of_ble_eq_true rfl, Nat.le_of_ble_eq_true rfl, cdP_describe, lkD_339, imP_describe, slP_describe, inP_describe, pmP_describe⟩, fun _ h => absurd h List.not_mem_nil⟩) XST_D_ok
def wD_setupLength (f : Nat → XH → XR) : List Value → List Value → XH → XR := fun vs st h => match vs, st with
  | [.ref a0], [] => f a0 h
  | _, _ => none
set_option maxRecDepth 100000 in
theorem eD_setupLength (a0 : Nat) (h : XH) : qD_setupLength a0 h = xrun BD_setupLength (xfind []) 12 0 (List.zip [0] [.ref a0]) [] h := rfl
theorem tD_setupLength : XTo cX8_setupLength 1 RX8 1 7 151 0 [0] (wD_setupLength (qD_setupLength)) := by
  refine XTo.run (B := BD_setupLength) (cut := xfind []) kD_setupLength (xcuts_ok (fun _ h => absurd h List.not_mem_nil)) 12 (fun vs st h r hr => ?_)
  unfold wD_setupLength at hr
  split at hr
  · exact (eD_setupLength _ _).symm.trans hr
  · cases hr
def FD_setupLength : List Value → XH → XR := fun vs h => match vs with
  | [.ref a0] => qD_setupLength a0 h
  | _ => none
theorem SD_setupLength : XS yX8_setupLength cX8_setupLength 1 (some .int) (xrm 7 151) FD_setupLength := by
  refine XS.of (own := RX8) (by decide) rfl (rk := 1) rfl (tD_setupLength) (fun vs h r hr => ?_)
  unfold FD_setupLength at hr
  split at hr
  · exact ⟨rfl, Nat.le_of_ble_eq_true rfl, hr⟩
  · cases hr
-- LineDiagramModel.saysNumber(I)V
def rM_saysNumber : List (Nat × XRow) := [(0, (.iconst 1, 1, 0, .int (1 : Int32), [])),
  (1, (.istore_n 2, 2, 2, .null, [])),
  (2, (.iload_n 1, 3, 1, .null, [])),
  (3, (.iload_n 2, 4, 2, .null, [])),
  (4, (.idiv, 5, 0, .null, [])),
  (5, (.bipush 9, 7, 0, .int (9 : Int32), [])),
  (7, (.if_icmp .le 11, 10, 18, .null, [])),
  (10, (.iload_n 2, 11, 2, .null, [])),
  (11, (.bipush 10, 13, 0, .int (10 : Int32), [])),
  (13, (.imul, 14, 0, .null, [])),
  (14, (.istore_n 2, 15, 2, .null, [])),
  (15, (.goto (-13), 18, 2, .null, [])),
  (18, (.iload_n 2, 19, 2, .null, [])),
  (19, (.ifCond .le 24, 22, 43, .null, [])),
  (22, (.aload_n 0, 23, 0, .null, [])),
  (23, (.bipush 48, 25, 0, .int (48 : Int32), [])),
  (25, (.iload_n 1, 26, 1, .null, [])),
  (26, (.iload_n 2, 27, 2, .null, [])),
  (27, (.idiv, 28, 0, .null, [])),
  (28, (.bipush 10, 30, 0, .int (10 : Int32), [])),
  (30, (.irem, 31, 0, .null, [])),
  (31, (.iadd, 32, 0, .null, [])),
  (32, (.invokevirtual 484, 35, 484, .null, [])),
  (35, (.iload_n 2, 36, 2, .null, [])),
  (36, (.bipush 10, 38, 0, .int (10 : Int32), [])),
  (38, (.idiv, 39, 0, .null, [])),
  (39, (.istore_n 2, 40, 2, .null, [])),
  (40, (.goto (-22), 43, 18, .null, [])),
  (43, (.return_, 44, 0, .null, []))]
def mM_saysNumber : List (Nat × XM) := [(484, (2, 0, some 9, FM_says))]
abbrev BM_saysNumber : XB := (rM_saysNumber, XFT_M, mM_saysNumber, 0, XST_M)
set_option maxRecDepth 100000 in
theorem kM_saysNumber : XOK BM_saysNumber cX9_saysNumber 3 RX9 1 21 := xok_of (cps := []) (K := XKT_M) (by decide +kernel) XKT_M_ok (fun _ h => absurd h List.not_mem_nil) XFT_M_ok (List.forall_mem_cons.mpr ⟨⟨_, _, _, _, _, _, _, SM_says, rfl, rfl, Nat.le_of_ble_eq_true rfl, Nat.le_of_ble_eq_true rfl, cdM_says, lkM_484, imM_says, slM_says, inM_says, pmM_says⟩, fun _ h => absurd h List.not_mem_nil⟩) XST_M_ok
def wM_saysNumber_18 (f : Nat → Int32 → Int32 → XH → XR) : List Value → List Value → XH → XR := fun vs st h => match vs, st with
  | [.ref a0, .int x1, .int x2], [] => f a0 x1 x2 h
  | _, _ => none
def wM_saysNumber_2 (f : Nat → Int32 → Int32 → XH → XR) : List Value → List Value → XH → XR := fun vs st h => match vs, st with
  | [.ref a0, .int x1, .int x2], [] => f a0 x1 x2 h
  | _, _ => none
def wM_saysNumber (f : Nat → Int32 → XH → XR) : List Value → List Value → XH → XR := fun vs st h => match vs, st with
  | [.ref a0, .int x1], [] => f a0 x1 h
  | _, _ => none
set_option maxRecDepth 100000 in
theorem eM_saysNumber_18_b (k18 : Nat → Int32 → Int32 → XH → XR) (a0 : Nat) (x1 : Int32) (x2 : Int32) (h : XH) : qM_saysNumber_18_b k18 a0 x1 x2 h = xrun BM_saysNumber (xfind [(18, ([0, 1, 2], wM_saysNumber_18 (k18)))]) 32 18 (List.zip [0, 1, 2] [.ref a0, .int x1, .int x2]) [] h := rfl
theorem tM_saysNumber_18_b {k18 : Nat → Int32 → Int32 → XH → XR} (hk18 : XTo cX9_saysNumber 3 RX9 0 1 21 18 [0, 1, 2] (wM_saysNumber_18 k18)) : XTo cX9_saysNumber 3 RX9 0 1 21 18 [0, 1, 2] (wM_saysNumber_18 (qM_saysNumber_18_b k18)) := by
  refine XTo.run (B := BM_saysNumber) (cut := xfind [(18, ([0, 1, 2], wM_saysNumber_18 (k18)))]) kM_saysNumber (xcuts_ok (List.forall_mem_cons.mpr ⟨hk18, fun _ h => absurd h List.not_mem_nil⟩)) 32 (fun vs st h r hr => ?_)
  unfold wM_saysNumber_18 at hr
  split at hr
  · exact (eM_saysNumber_18_b k18 _ _ _ _).symm.trans hr
  · cases hr
theorem tM_saysNumber_18 : ∀ n : Nat, XTo cX9_saysNumber 3 RX9 0 1 21 18 [0, 1, 2] (wM_saysNumber_18 (qM_saysNumber_18 n)) := by
  intro n
  induction n with
  | zero =>
    refine XTo.none fun vs st h => ?_
    unfold wM_saysNumber_18
    split <;> rfl
  | succ n ih => exact tM_saysNumber_18_b  ih
set_option maxRecDepth 100000 in
theorem eM_saysNumber_2_b (k2 : Nat → Int32 → Int32 → XH → XR) (a0 : Nat) (x1 : Int32) (x2 : Int32) (h : XH) : qM_saysNumber_2_b k2 a0 x1 x2 h = xrun BM_saysNumber (xfind [(2, ([0, 1, 2], wM_saysNumber_2 (k2))), (18, ([0, 1, 2], wM_saysNumber_18 (qM_saysNumber_18 LF)))]) 32 2 (List.zip [0, 1, 2] [.ref a0, .int x1, .int x2]) [] h := rfl
theorem tM_saysNumber_2_b {k2 : Nat → Int32 → Int32 → XH → XR} (hk2 : XTo cX9_saysNumber 3 RX9 0 1 21 2 [0, 1, 2] (wM_saysNumber_2 k2)) : XTo cX9_saysNumber 3 RX9 0 1 21 2 [0, 1, 2] (wM_saysNumber_2 (qM_saysNumber_2_b k2)) := by
  refine XTo.run (B := BM_saysNumber) (cut := xfind [(2, ([0, 1, 2], wM_saysNumber_2 (k2))), (18, ([0, 1, 2], wM_saysNumber_18 (qM_saysNumber_18 LF)))]) kM_saysNumber (xcuts_ok (List.forall_mem_cons.mpr ⟨hk2, List.forall_mem_cons.mpr ⟨tM_saysNumber_18 LF, fun _ h => absurd h List.not_mem_nil⟩⟩)) 32 (fun vs st h r hr => ?_)
  unfold wM_saysNumber_2 at hr
  split at hr
  · exact (eM_saysNumber_2_b k2 _ _ _ _).symm.trans hr
  · cases hr
theorem tM_saysNumber_2 : ∀ n : Nat, XTo cX9_saysNumber 3 RX9 0 1 21 2 [0, 1, 2] (wM_saysNumber_2 (qM_saysNumber_2 n)) := by
  intro n
  induction n with
  | zero =>
    refine XTo.none fun vs st h => ?_
    unfold wM_saysNumber_2
    split <;> rfl
  | succ n ih => exact tM_saysNumber_2_b  ih
set_option maxRecDepth 100000 in
theorem eM_saysNumber (a0 : Nat) (x1 : Int32) (h : XH) : qM_saysNumber a0 x1 h = xrun BM_saysNumber (xfind [(2, ([0, 1, 2], wM_saysNumber_2 (qM_saysNumber_2 LF)))]) 32 0 (List.zip [0, 1] [.ref a0, .int x1]) [] h := rfl
theorem tM_saysNumber : XTo cX9_saysNumber 3 RX9 0 1 21 0 [0, 1] (wM_saysNumber (qM_saysNumber)) := by
  refine XTo.run (B := BM_saysNumber) (cut := xfind [(2, ([0, 1, 2], wM_saysNumber_2 (qM_saysNumber_2 LF)))]) kM_saysNumber (xcuts_ok (List.forall_mem_cons.mpr ⟨tM_saysNumber_2 LF, fun _ h => absurd h List.not_mem_nil⟩)) 32 (fun vs st h r hr => ?_)
  unfold wM_saysNumber at hr
  split at hr
  · exact (eM_saysNumber _ _ _).symm.trans hr
  · cases hr
def FM_saysNumber : List Value → XH → XR := fun vs h => match vs with
  | [.ref a0, .int x1] => qM_saysNumber a0 x1 h
  | _ => none
theorem SM_saysNumber : XS yX9_saysNumber cX9_saysNumber 3 none (xrm 1 21) FM_saysNumber := by
  refine XS.of (own := RX9) (by decide) rfl (rk := 0) rfl (tM_saysNumber) (fun vs h r hr => ?_)
  unfold FM_saysNumber at hr
  split at hr
  · exact ⟨rfl, Nat.le_of_ble_eq_true rfl, hr⟩
  · cases hr
-- LineDiagramModel.saysWord(J)V
def rM_saysWord : List (Nat × XRow) := [(0, (.bipush 35, 2, 0, .int (35 : Int32), [])),
  (2, (.istore_n 3, 3, 3, .null, [])),
  (3, (.iload_n 3, 4, 3, .null, [])),
  (4, (.ifCond .lt 33, 7, 37, .null, [])),
  (7, (.lload_n 1, 8, 1, .null, [])),
  (8, (.iload_n 3, 9, 3, .null, [])),
  (9, (.lshr, 10, 0, .null, [])),
  (10, (.ldc2_w 482, 13, 482, .long (31 : Int64), [])),
  (13, (.land, 14, 0, .null, [])),
  (14, (.l2i, 15, 0, .null, [])),
  (15, (.istore 4, 17, 4, .null, [])),
  (17, (.iload 4, 19, 4, .null, [])),
  (19, (.ifCond .le 12, 22, 31, .null, [])),
  (22, (.aload_n 0, 23, 0, .null, [])),
  (23, (.bipush 96, 25, 0, .int (96 : Int32), [])),
  (25, (.iload 4, 27, 4, .null, [])),
  (27, (.iadd, 28, 0, .null, [])),
  (28, (.invokevirtual 484, 31, 484, .null, [])),
  (31, (.iinc 3 (-5), 34, 3, .int (-5 : Int32), [])),
  (34, (.goto (-31), 37, 3, .null, [])),
  (37, (.return_, 38, 0, .null, []))]
def mM_saysWord : List (Nat × XM) := [(484, (2, 0, some 9, FM_says))]
abbrev BM_saysWord : XB := (rM_saysWord, XFT_M, mM_saysWord, 0, XST_M)
set_option maxRecDepth 100000 in
theorem kM_saysWord : XOK BM_saysWord cX9_saysWord 5 RX9 1 21 := xok_of (cps := []) (K := XKT_M) (by decide +kernel) XKT_M_ok (fun _ h => absurd h List.not_mem_nil) XFT_M_ok (List.forall_mem_cons.mpr ⟨⟨_, _, _, _, _, _, _, SM_says, rfl, rfl, Nat.le_of_ble_eq_true rfl, Nat.le_of_ble_eq_true rfl, cdM_says, lkM_484, imM_says, slM_says, inM_says, pmM_says⟩, fun _ h => absurd h List.not_mem_nil⟩) XST_M_ok
def wM_saysWord_3 (f : Nat → Int64 → Int32 → XH → XR) : List Value → List Value → XH → XR := fun vs st h => match vs, st with
  | [.ref a0, .long l1, .int x3], [] => f a0 l1 x3 h
  | _, _ => none
def wM_saysWord (f : Nat → Int64 → XH → XR) : List Value → List Value → XH → XR := fun vs st h => match vs, st with
  | [.ref a0, .long l1], [] => f a0 l1 h
  | _, _ => none
set_option maxRecDepth 100000 in
theorem eM_saysWord_3_b (k3 : Nat → Int64 → Int32 → XH → XR) (a0 : Nat) (l1 : Int64) (x3 : Int32) (h : XH) : qM_saysWord_3_b k3 a0 l1 x3 h = xrun BM_saysWord (xfind [(3, ([0, 1, 3], wM_saysWord_3 (k3)))]) 24 3 (List.zip [0, 1, 3] [.ref a0, .long l1, .int x3]) [] h := rfl
theorem tM_saysWord_3_b {k3 : Nat → Int64 → Int32 → XH → XR} (hk3 : XTo cX9_saysWord 5 RX9 0 1 21 3 [0, 1, 3] (wM_saysWord_3 k3)) : XTo cX9_saysWord 5 RX9 0 1 21 3 [0, 1, 3] (wM_saysWord_3 (qM_saysWord_3_b k3)) := by
  refine XTo.run (B := BM_saysWord) (cut := xfind [(3, ([0, 1, 3], wM_saysWord_3 (k3)))]) kM_saysWord (xcuts_ok (List.forall_mem_cons.mpr ⟨hk3, fun _ h => absurd h List.not_mem_nil⟩)) 24 (fun vs st h r hr => ?_)
  unfold wM_saysWord_3 at hr
  split at hr
  · exact (eM_saysWord_3_b k3 _ _ _ _).symm.trans hr
  · cases hr
theorem tM_saysWord_3 : ∀ n : Nat, XTo cX9_saysWord 5 RX9 0 1 21 3 [0, 1, 3] (wM_saysWord_3 (qM_saysWord_3 n)) := by
  intro n
  induction n with
  | zero =>
    refine XTo.none fun vs st h => ?_
    unfold wM_saysWord_3
    split <;> rfl
  | succ n ih => exact tM_saysWord_3_b  ih
set_option maxRecDepth 100000 in
theorem eM_saysWord (a0 : Nat) (l1 : Int64) (h : XH) : qM_saysWord a0 l1 h = xrun BM_saysWord (xfind [(3, ([0, 1, 3], wM_saysWord_3 (qM_saysWord_3 LF)))]) 24 0 (List.zip [0, 1] [.ref a0, .long l1]) [] h := rfl
theorem tM_saysWord : XTo cX9_saysWord 5 RX9 0 1 21 0 [0, 1] (wM_saysWord (qM_saysWord)) := by
  refine XTo.run (B := BM_saysWord) (cut := xfind [(3, ([0, 1, 3], wM_saysWord_3 (qM_saysWord_3 LF)))]) kM_saysWord (xcuts_ok (List.forall_mem_cons.mpr ⟨tM_saysWord_3 LF, fun _ h => absurd h List.not_mem_nil⟩)) 24 (fun vs st h r hr => ?_)
  unfold wM_saysWord at hr
  split at hr
  · exact (eM_saysWord _ _ _).symm.trans hr
  · cases hr
def FM_saysWord : List Value → XH → XR := fun vs h => match vs with
  | [.ref a0, .long l1] => qM_saysWord a0 l1 h
  | _ => none
theorem SM_saysWord : XS yX9_saysWord cX9_saysWord 5 none (xrm 1 21) FM_saysWord := by
  refine XS.of (own := RX9) (by decide) rfl (rk := 0) rfl (tM_saysWord) (fun vs h r hr => ?_)
  unfold FM_saysWord at hr
  split at hr
  · exact ⟨rfl, Nat.le_of_ble_eq_true rfl, hr⟩
  · cases hr
-- LineDiagramModel.saysPair(JI)V
def rM_saysPair : List (Nat × XRow) := [(0, (.aload_n 0, 1, 0, .null, [])),
  (1, (.lload_n 1, 2, 1, .null, [])),
  (2, (.invokevirtual 499, 5, 499, .null, [])),
  (5, (.aload_n 0, 6, 0, .null, [])),
  (6, (.bipush 32, 8, 0, .int (32 : Int32), [])),
  (8, (.invokevirtual 484, 11, 484, .null, [])),
  (11, (.aload_n 0, 12, 0, .null, [])),
  (12, (.iload_n 3, 13, 3, .null, [])),
  (13, (.invokevirtual 503, 16, 503, .null, [])),
  (16, (.return_, 17, 0, .null, []))]
def mM_saysPair : List (Nat × XM) := [(484, (2, 0, some 9, FM_says)), (499, (2, 0, some 9, FM_saysWord)), (503, (2, 0, some 9, FM_saysNumber))]
abbrev BM_saysPair : XB := (rM_saysPair, XFT_M, mM_saysPair, 0, XST_M)
set_option maxRecDepth 100000 in
theorem kM_saysPair : XOK BM_saysPair cX9_saysPair 4 RX9 2 45 := xok_of (cps := []) (K := XKT_M) (by decide +kernel) XKT_M_ok (fun _ h => absurd h List.not_mem_nil) XFT_M_ok (List.forall_mem_cons.mpr ⟨⟨_, _, _, _, _, _, _, SM_says, rfl, rfl, Nat.le_of_ble_eq_true rfl, Nat.le_of_ble_eq_true rfl, cdM_says, lkM_484, imM_says, slM_says, inM_says, pmM_says⟩, List.forall_mem_cons.mpr ⟨⟨_, _, _, _, _, _, _, SM_saysWord, rfl, rfl, Nat.le_of_ble_eq_true rfl, Nat.le_of_ble_eq_true rfl, cdM_saysWord, lkM_499, imM_saysWord, slM_saysWord, inM_saysWord, pmM_saysWord⟩, List.forall_mem_cons.mpr ⟨⟨_, _, _, _, _, _, _, SM_saysNumber, rfl, rfl, Nat.le_of_ble_eq_true rfl, Nat.le_of_ble_eq_true rfl, cdM_saysNumber, lkM_503, imM_saysNumber, slM_saysNumber, inM_saysNumber, pmM_saysNumber⟩, fun _ h => absurd h List.not_mem_nil⟩⟩⟩) XST_M_ok
def wM_saysPair (f : Nat → Int64 → Int32 → XH → XR) : List Value → List Value → XH → XR := fun vs st h => match vs, st with
  | [.ref a0, .long l1, .int x3], [] => f a0 l1 x3 h
  | _, _ => none
set_option maxRecDepth 100000 in
theorem eM_saysPair (a0 : Nat) (l1 : Int64) (x3 : Int32) (h : XH) : qM_saysPair a0 l1 x3 h = xrun BM_saysPair (xfind []) 13 0 (List.zip [0, 1, 3] [.ref a0, .long l1, .int x3]) [] h := rfl
theorem tM_saysPair : XTo cX9_saysPair 4 RX9 0 2 45 0 [0, 1, 3] (wM_saysPair (qM_saysPair)) := by
  refine XTo.run (B := BM_saysPair) (cut := xfind []) kM_saysPair (xcuts_ok (fun _ h => absurd h List.not_mem_nil)) 13 (fun vs st h r hr => ?_)
  unfold wM_saysPair at hr
  split at hr
  · exact (eM_saysPair _ _ _ _).symm.trans hr
  · cases hr
def FM_saysPair : List Value → XH → XR := fun vs h => match vs with
  | [.ref a0, .long l1, .int x3] => qM_saysPair a0 l1 x3 h
  | _ => none
theorem SM_saysPair : XS yX9_saysPair cX9_saysPair 4 none (xrm 2 45) FM_saysPair := by
  refine XS.of (own := RX9) (by decide) rfl (rk := 0) rfl (tM_saysPair) (fun vs h r hr => ?_)
  unfold FM_saysPair at hr
  split at hr
  · exact ⟨rfl, Nat.le_of_ble_eq_true rfl, hr⟩
  · cases hr
-- LineDiagramModel.saysLine(I)V
def rM_saysLine : List (Nat × XRow) := [(0, (.aload_n 0, 1, 0, .null, [])),
  (1, (.ldc2_w 218, 4, 218, .long (402885 : Int64), [])),
  (4, (.invokevirtual 499, 7, 499, .null, [])),
  (7, (.aload_n 0, 8, 0, .null, [])),
  (8, (.bipush 32, 10, 0, .int (32 : Int32), [])),
  (10, (.invokevirtual 484, 13, 484, .null, [])),
  (13, (.aload_n 0, 14, 0, .null, [])),
  (14, (.aload_n 0, 15, 0, .null, [])),
  (15, (.getfield 17, 18, 17, .null, [])),
  (18, (.iload_n 1, 19, 1, .null, [])),
  (19, (.iaload, 20, 0, .null, [])),
  (20, (.i2l, 21, 0, .null, [])),
  (21, (.invokevirtual 499, 24, 499, .null, [])),
  (24, (.aload_n 0, 25, 0, .null, [])),
  (25, (.bipush 32, 27, 0, .int (32 : Int32), [])),
  (27, (.invokevirtual 484, 30, 484, .null, [])),
  (30, (.aload_n 0, 31, 0, .null, [])),
  (31, (.ldc2_w 220, 34, 220, .long (632645 : Int64), [])),
  (34, (.aload_n 0, 35, 0, .null, [])),
  (35, (.iload_n 1, 36, 1, .null, [])),
  (36, (.iconst 0, 37, 0, .int (0 : Int32), [])),
  (37, (.invokevirtual 88, 40, 88, .null, [])),
  (40, (.invokevirtual 506, 43, 506, .null, [])),
  (43, (.aload_n 0, 44, 0, .null, [])),
  (44, (.bipush 32, 46, 0, .int (32 : Int32), [])),
  (46, (.invokevirtual 484, 49, 484, .null, [])),
  (49, (.aload_n 0, 50, 0, .null, [])),
  (50, (.ldc2_w 222, 53, 222, .long (20594195 : Int64), [])),
  (53, (.aload_n 0, 54, 0, .null, [])),
  (54, (.iload_n 1, 55, 1, .null, [])),
  (55, (.iconst 1, 56, 0, .int (1 : Int32), [])),
  (56, (.invokevirtual 88, 59, 88, .null, [])),
  (59, (.invokevirtual 506, 62, 506, .null, [])),
  (62, (.iconst 0, 63, 0, .int (0 : Int32), [])),
  (63, (.istore_n 2, 64, 2, .null, [])),
  (64, (.iload_n 2, 65, 2, .null, [])),
  (65, (.aload_n 0, 66, 0, .null, [])),
  (66, (.iload_n 1, 67, 1, .null, [])),
  (67, (.iconst 2, 68, 0, .int (2 : Int32), [])),
  (68, (.invokevirtual 88, 71, 88, .null, [])),
  (71, (.if_icmp .ge 44, 74, 115, .null, [])),
  (74, (.aload_n 0, 75, 0, .null, [])),
  (75, (.bipush 32, 77, 0, .int (32 : Int32), [])),
  (77, (.invokevirtual 484, 80, 484, .null, [])),
  (80, (.aload_n 0, 81, 0, .null, [])),
  (81, (.ldc2_w 224, 84, 224, .long (52 : Int64), [])),
  (84, (.aload_n 0, 85, 0, .null, [])),
  (85, (.iload_n 1, 86, 1, .null, [])),
  (86, (.iload_n 2, 87, 2, .null, [])),
  (87, (.invokevirtual 120, 90, 120, .null, [])),
  (90, (.invokevirtual 506, 93, 506, .null, [])),
  (93, (.aload_n 0, 94, 0, .null, [])),
  (94, (.bipush 32, 96, 0, .int (32 : Int32), [])),
  (96, (.invokevirtual 484, 99, 484, .null, [])),
  (99, (.aload_n 0, 100, 0, .null, [])),
  (100, (.aload_n 0, 101, 0, .null, [])),
  (101, (.iload_n 1, 102, 1, .null, [])),
  (102, (.iload_n 2, 103, 2, .null, [])),
  (103, (.invokevirtual 123, 106, 123, .null, [])),
  (106, (.invokevirtual 503, 109, 503, .null, [])),
  (109, (.iinc 2 1, 112, 2, .int (1 : Int32), [])),
  (112, (.goto (-48), 115, 64, .null, [])),
  (115, (.aload_n 0, 116, 0, .null, [])),
  (116, (.bipush 59, 118, 0, .int (59 : Int32), [])),
  (118, (.invokevirtual 484, 121, 484, .null, [])),
  (121, (.return_, 122, 0, .null, []))]
def mM_saysLine : List (Nat × XM) := [(88, (3, 1, some 9, FM_of)), (120, (3, 1, some 9, FM_px)), (123, (3, 1, some 9, FM_py)), (484, (2, 0, some 9, FM_says)), (499, (2, 0, some 9, FM_saysWord)), (503, (2, 0, some 9, FM_saysNumber)), (506, (3, 0, some 9, FM_saysPair))]
abbrev BM_saysLine : XB := (rM_saysLine, XFT_M, mM_saysLine, 0, XST_M)
set_option maxRecDepth 100000 in
theorem kM_saysLine : XOK BM_saysLine cX9_saysLine 3 RX9 3 68 := xok_of (cps := []) (K := XKT_M) (by decide +kernel) XKT_M_ok (fun _ h => absurd h List.not_mem_nil) XFT_M_ok (List.forall_mem_cons.mpr ⟨⟨_, _, _, _, _, _, _, SM_of, rfl, rfl, Nat.le_of_ble_eq_true rfl, Nat.le_of_ble_eq_true rfl, cdM_of, lkM_88, imM_of, slM_of, inM_of, pmM_of⟩, List.forall_mem_cons.mpr ⟨⟨_, _, _, _, _, _, _, SM_px, rfl, rfl, Nat.le_of_ble_eq_true rfl, Nat.le_of_ble_eq_true rfl, cdM_px, lkM_120, imM_px, slM_px, inM_px, pmM_px⟩, List.forall_mem_cons.mpr ⟨⟨_, _, _, _, _, _, _, SM_py, rfl, rfl, Nat.le_of_ble_eq_true rfl, Nat.le_of_ble_eq_true rfl, cdM_py, lkM_123, imM_py, slM_py, inM_py, pmM_py⟩, List.forall_mem_cons.mpr ⟨⟨_, _, _, _, _, _, _, SM_says, rfl, rfl, Nat.le_of_ble_eq_true rfl, Nat.le_of_ble_eq_true rfl, cdM_says, lkM_484, imM_says, slM_says, inM_says, pmM_says⟩, List.forall_mem_cons.mpr ⟨⟨_, _, _, _, _, _, _, SM_saysWord, rfl, rfl, Nat.le_of_ble_eq_true rfl, Nat.le_of_ble_eq_true rfl, cdM_saysWord, lkM_499, imM_saysWord, slM_saysWord, inM_saysWord, pmM_saysWord⟩, List.forall_mem_cons.mpr ⟨⟨_, _, _, _, _, _, _, SM_saysNumber, rfl, rfl, Nat.le_of_ble_eq_true rfl, Nat.le_of_ble_eq_true rfl, cdM_saysNumber, lkM_503, imM_saysNumber, slM_saysNumber, inM_saysNumber, pmM_saysNumber⟩, List.forall_mem_cons.mpr ⟨⟨_, _, _, _, _, _, _, SM_saysPair, rfl, rfl, Nat.le_of_ble_eq_true rfl, Nat.le_of_ble_eq_true rfl, cdM_saysPair, lkM_506, imM_saysPair, slM_saysPair, inM_saysPair, pmM_saysPair⟩, fun _ h => absurd h List.not_mem_nil⟩⟩⟩⟩⟩⟩⟩) XST_M_ok
def wM_saysLine_115 (f : Nat → XH → XR) : List Value → List Value → XH → XR := fun vs st h => match vs, st with
  | [.ref a0], [] => f a0 h
  | _, _ => none
def wM_saysLine_64 (f : Nat → Int32 → Int32 → XH → XR) : List Value → List Value → XH → XR := fun vs st h => match vs, st with
  | [.ref a0, .int x1, .int x2], [] => f a0 x1 x2 h
  | _, _ => none
def wM_saysLine (f : Nat → Int32 → XH → XR) : List Value → List Value → XH → XR := fun vs st h => match vs, st with
  | [.ref a0, .int x1], [] => f a0 x1 h
  | _, _ => none
set_option maxRecDepth 100000 in
theorem eM_saysLine_115 (a0 : Nat) (h : XH) : qM_saysLine_115 a0 h = xrun BM_saysLine (xfind []) 69 115 (List.zip [0] [.ref a0]) [] h := rfl
theorem tM_saysLine_115 : XTo cX9_saysLine 3 RX9 0 3 68 115 [0] (wM_saysLine_115 (qM_saysLine_115)) := by
  refine XTo.run (B := BM_saysLine) (cut := xfind []) kM_saysLine (xcuts_ok (fun _ h => absurd h List.not_mem_nil)) 69 (fun vs st h r hr => ?_)
  unfold wM_saysLine_115 at hr
  split at hr
  · exact (eM_saysLine_115 _ _).symm.trans hr
  · cases hr
set_option maxRecDepth 100000 in
theorem eM_saysLine_64_b (k64 : Nat → Int32 → Int32 → XH → XR) (a0 : Nat) (x1 : Int32) (x2 : Int32) (h : XH) : qM_saysLine_64_b k64 a0 x1 x2 h = xrun BM_saysLine (xfind [(64, ([0, 1, 2], wM_saysLine_64 (k64))), (115, ([0], wM_saysLine_115 (qM_saysLine_115)))]) 69 64 (List.zip [0, 1, 2] [.ref a0, .int x1, .int x2]) [] h := rfl
theorem tM_saysLine_64_b {k64 : Nat → Int32 → Int32 → XH → XR} (hk64 : XTo cX9_saysLine 3 RX9 0 3 68 64 [0, 1, 2] (wM_saysLine_64 k64)) : XTo cX9_saysLine 3 RX9 0 3 68 64 [0, 1, 2] (wM_saysLine_64 (qM_saysLine_64_b k64)) := by
  refine XTo.run (B := BM_saysLine) (cut := xfind [(64, ([0, 1, 2], wM_saysLine_64 (k64))), (115, ([0], wM_saysLine_115 (qM_saysLine_115)))]) kM_saysLine (xcuts_ok (List.forall_mem_cons.mpr ⟨hk64, List.forall_mem_cons.mpr ⟨tM_saysLine_115, fun _ h => absurd h List.not_mem_nil⟩⟩)) 69 (fun vs st h r hr => ?_)
  unfold wM_saysLine_64 at hr
  split at hr
  · exact (eM_saysLine_64_b k64 _ _ _ _).symm.trans hr
  · cases hr
theorem tM_saysLine_64 : ∀ n : Nat, XTo cX9_saysLine 3 RX9 0 3 68 64 [0, 1, 2] (wM_saysLine_64 (qM_saysLine_64 n)) := by
  intro n
  induction n with
  | zero =>
    refine XTo.none fun vs st h => ?_
    unfold wM_saysLine_64
    split <;> rfl
  | succ n ih => exact tM_saysLine_64_b  ih
set_option maxRecDepth 100000 in
theorem eM_saysLine (a0 : Nat) (x1 : Int32) (h : XH) : qM_saysLine a0 x1 h = xrun BM_saysLine (xfind [(64, ([0, 1, 2], wM_saysLine_64 (qM_saysLine_64 LF)))]) 69 0 (List.zip [0, 1] [.ref a0, .int x1]) [] h := rfl
theorem tM_saysLine : XTo cX9_saysLine 3 RX9 0 3 68 0 [0, 1] (wM_saysLine (qM_saysLine)) := by
  refine XTo.run (B := BM_saysLine) (cut := xfind [(64, ([0, 1, 2], wM_saysLine_64 (qM_saysLine_64 LF)))]) kM_saysLine (xcuts_ok (List.forall_mem_cons.mpr ⟨tM_saysLine_64 LF, fun _ h => absurd h List.not_mem_nil⟩)) 69 (fun vs st h r hr => ?_)
  unfold wM_saysLine at hr
  split at hr
  · exact (eM_saysLine _ _ _).symm.trans hr
  · cases hr
def FM_saysLine : List Value → XH → XR := fun vs h => match vs with
  | [.ref a0, .int x1] => qM_saysLine a0 x1 h
  | _ => none
theorem SM_saysLine : XS yX9_saysLine cX9_saysLine 3 none (xrm 3 68) FM_saysLine := by
  refine XS.of (own := RX9) (by decide) rfl (rk := 0) rfl (tM_saysLine) (fun vs h r hr => ?_)
  unfold FM_saysLine at hr
  split at hr
  · exact ⟨rfl, Nat.le_of_ble_eq_true rfl, hr⟩
  · cases hr
-- LineDiagramModel.saysSetup(I)V
def rM_saysSetup : List (Nat × XRow) := [(0, (.aload_n 0, 1, 0, .null, [])),
  (1, (.iload_n 1, 2, 1, .null, [])),
  (2, (.invokevirtual 490, 5, 490, .null, [])),
  (5, (.aload_n 0, 6, 0, .null, [])),
  (6, (.ldc2_w 214, 9, 214, .long (2590276 : Int64), [])),
  (9, (.aload_n 0, 10, 0, .null, [])),
  (10, (.getfield 73, 13, 73, .null, [])),
  (13, (.invokevirtual 506, 16, 506, .null, [])),
  (16, (.aload_n 0, 17, 0, .null, [])),
  (17, (.bipush 32, 19, 0, .int (32 : Int32), [])),
  (19, (.invokevirtual 484, 22, 484, .null, [])),
  (22, (.aload_n 0, 23, 0, .null, [])),
  (23, (.aload_n 0, 24, 0, .null, [])),
  (24, (.getfield 76, 27, 76, .null, [])),
  (27, (.invokevirtual 503, 30, 503, .null, [])),
  (30, (.aload_n 0, 31, 0, .null, [])),
  (31, (.bipush 32, 33, 0, .int (32 : Int32), [])),
  (33, (.invokevirtual 484, 36, 484, .null, [])),
  (36, (.aload_n 0, 37, 0, .null, [])),
  (37, (.ldc2_w 216, 40, 216, .long (677454 : Int64), [])),
  (40, (.aload_n 0, 41, 0, .null, [])),
  (41, (.getfield 79, 44, 79, .null, [])),
  (44, (.invokevirtual 506, 47, 506, .null, [])),
  (47, (.aload_n 0, 48, 0, .null, [])),
  (48, (.bipush 59, 50, 0, .int (59 : Int32), [])),
  (50, (.invokevirtual 484, 53, 484, .null, [])),
  (53, (.iconst 0, 54, 0, .int (0 : Int32), [])),
  (54, (.istore_n 2, 55, 2, .null, [])),
  (55, (.iload_n 2, 56, 2, .null, [])),
  (56, (.aload_n 0, 57, 0, .null, [])),
  (57, (.getfield 100, 60, 100, .null, [])),
  (60, (.if_icmp .ge 14, 63, 74, .null, [])),
  (63, (.aload_n 0, 64, 0, .null, [])),
  (64, (.iload_n 2, 65, 2, .null, [])),
  (65, (.invokevirtual 510, 68, 510, .null, [])),
  (68, (.iinc 2 1, 71, 2, .int (1 : Int32), [])),
  (71, (.goto (-16), 74, 55, .null, [])),
  (74, (.return_, 75, 0, .null, []))]
def mM_saysSetup : List (Nat × XM) := [(484, (2, 0, some 9, FM_says)), (490, (2, 0, some 9, FM_startsText)), (503, (2, 0, some 9, FM_saysNumber)), (506, (3, 0, some 9, FM_saysPair)), (510, (2, 0, some 9, FM_saysLine))]
abbrev BM_saysSetup : XB := (rM_saysSetup, XFT_M, mM_saysSetup, 0, XST_M)
set_option maxRecDepth 100000 in
theorem kM_saysSetup : XOK BM_saysSetup cX9_saysSetup 3 RX9 4 90 := xok_of (cps := []) (K := XKT_M) (by decide +kernel) XKT_M_ok (fun _ h => absurd h List.not_mem_nil) XFT_M_ok (List.forall_mem_cons.mpr ⟨⟨_, _, _, _, _, _, _, SM_says, rfl, rfl, Nat.le_of_ble_eq_true rfl, Nat.le_of_ble_eq_true rfl, cdM_says, lkM_484, imM_says, slM_says, inM_says, pmM_says⟩, List.forall_mem_cons.mpr ⟨⟨_, _, _, _, _, _, _, SM_startsText, rfl, rfl, Nat.le_of_ble_eq_true rfl, Nat.le_of_ble_eq_true rfl, cdM_startsText, lkM_490, imM_startsText, slM_startsText, inM_startsText, pmM_startsText⟩, List.forall_mem_cons.mpr ⟨⟨_, _, _, _, _, _, _, SM_saysNumber, rfl, rfl, Nat.le_of_ble_eq_true rfl, Nat.le_of_ble_eq_true rfl, cdM_saysNumber, lkM_503, imM_saysNumber, slM_saysNumber, inM_saysNumber, pmM_saysNumber⟩, List.forall_mem_cons.mpr ⟨⟨_, _, _, _, _, _, _, SM_saysPair, rfl, rfl, Nat.le_of_ble_eq_true rfl, Nat.le_of_ble_eq_true rfl, cdM_saysPair, lkM_506, imM_saysPair, slM_saysPair, inM_saysPair, pmM_saysPair⟩, List.forall_mem_cons.mpr ⟨⟨_, _, _, _, _, _, _, SM_saysLine, rfl, rfl, Nat.le_of_ble_eq_true rfl, Nat.le_of_ble_eq_true rfl, cdM_saysLine, lkM_510, imM_saysLine, slM_saysLine, inM_saysLine, pmM_saysLine⟩, fun _ h => absurd h List.not_mem_nil⟩⟩⟩⟩⟩) XST_M_ok
def wM_saysSetup_55 (f : Nat → Int32 → XH → XR) : List Value → List Value → XH → XR := fun vs st h => match vs, st with
  | [.ref a0, .int x2], [] => f a0 x2 h
  | _, _ => none
def wM_saysSetup (f : Nat → Int32 → XH → XR) : List Value → List Value → XH → XR := fun vs st h => match vs, st with
  | [.ref a0, .int x1], [] => f a0 x1 h
  | _, _ => none
set_option maxRecDepth 100000 in
theorem eM_saysSetup_55_b (k55 : Nat → Int32 → XH → XR) (a0 : Nat) (x2 : Int32) (h : XH) : qM_saysSetup_55_b k55 a0 x2 h = xrun BM_saysSetup (xfind [(55, ([0, 2], wM_saysSetup_55 (k55)))]) 41 55 (List.zip [0, 2] [.ref a0, .int x2]) [] h := rfl
theorem tM_saysSetup_55_b {k55 : Nat → Int32 → XH → XR} (hk55 : XTo cX9_saysSetup 3 RX9 0 4 90 55 [0, 2] (wM_saysSetup_55 k55)) : XTo cX9_saysSetup 3 RX9 0 4 90 55 [0, 2] (wM_saysSetup_55 (qM_saysSetup_55_b k55)) := by
  refine XTo.run (B := BM_saysSetup) (cut := xfind [(55, ([0, 2], wM_saysSetup_55 (k55)))]) kM_saysSetup (xcuts_ok (List.forall_mem_cons.mpr ⟨hk55, fun _ h => absurd h List.not_mem_nil⟩)) 41 (fun vs st h r hr => ?_)
  unfold wM_saysSetup_55 at hr
  split at hr
  · exact (eM_saysSetup_55_b k55 _ _ _).symm.trans hr
  · cases hr
theorem tM_saysSetup_55 : ∀ n : Nat, XTo cX9_saysSetup 3 RX9 0 4 90 55 [0, 2] (wM_saysSetup_55 (qM_saysSetup_55 n)) := by
  intro n
  induction n with
  | zero =>
    refine XTo.none fun vs st h => ?_
    unfold wM_saysSetup_55
    split <;> rfl
  | succ n ih => exact tM_saysSetup_55_b  ih
set_option maxRecDepth 100000 in
theorem eM_saysSetup (a0 : Nat) (x1 : Int32) (h : XH) : qM_saysSetup a0 x1 h = xrun BM_saysSetup (xfind [(55, ([0, 2], wM_saysSetup_55 (qM_saysSetup_55 LF)))]) 41 0 (List.zip [0, 1] [.ref a0, .int x1]) [] h := rfl
theorem tM_saysSetup : XTo cX9_saysSetup 3 RX9 0 4 90 0 [0, 1] (wM_saysSetup (qM_saysSetup)) := by
  refine XTo.run (B := BM_saysSetup) (cut := xfind [(55, ([0, 2], wM_saysSetup_55 (qM_saysSetup_55 LF)))]) kM_saysSetup (xcuts_ok (List.forall_mem_cons.mpr ⟨tM_saysSetup_55 LF, fun _ h => absurd h List.not_mem_nil⟩)) 41 (fun vs st h r hr => ?_)
  unfold wM_saysSetup at hr
  split at hr
  · exact (eM_saysSetup _ _ _).symm.trans hr
  · cases hr
def FM_saysSetup : List Value → XH → XR := fun vs h => match vs with
  | [.ref a0, .int x1] => qM_saysSetup a0 x1 h
  | _ => none
theorem SM_saysSetup : XS yX9_saysSetup cX9_saysSetup 3 none (xrm 4 90) FM_saysSetup := by
  refine XS.of (own := RX9) (by decide) rfl (rk := 0) rfl (tM_saysSetup) (fun vs h r hr => ?_)
  unfold FM_saysSetup at hr
  split at hr
  · exact ⟨rfl, Nat.le_of_ble_eq_true rfl, hr⟩
  · cases hr
-- LineDiagramModel.setupLength()I
def rM_setupLength : List (Nat × XRow) := [(0, (.aload_n 0, 1, 0, .null, [])),
  (1, (.iconst (-1), 2, 0, .int (-1 : Int32), [])),
  (2, (.invokevirtual 513, 5, 513, .null, [])),
  (5, (.aload_n 0, 6, 0, .null, [])),
  (6, (.getfield 473, 9, 473, .null, [])),
  (9, (.ireturn, 10, 0, .null, []))]
def mM_setupLength : List (Nat × XM) := [(513, (2, 0, some 9, FM_saysSetup))]
abbrev BM_setupLength : XB := (rM_setupLength, XFT_M, mM_setupLength, 1, XST_M)
set_option maxRecDepth 100000 in
theorem kM_setupLength : XOK BM_setupLength cX9_setupLength 1 RX9 5 112 := xok_of (cps := []) (K := XKT_M) (by decide +kernel) XKT_M_ok (fun _ h => absurd h List.not_mem_nil) XFT_M_ok (List.forall_mem_cons.mpr ⟨⟨_, _, _, _, _, _, _, SM_saysSetup, rfl, rfl, Nat.le_of_ble_eq_true rfl, Nat.le_of_ble_eq_true rfl, cdM_saysSetup, lkM_513, imM_saysSetup, slM_saysSetup, inM_saysSetup, pmM_saysSetup⟩, fun _ h => absurd h List.not_mem_nil⟩) XST_M_ok
def wM_setupLength (f : Nat → XH → XR) : List Value → List Value → XH → XR := fun vs st h => match vs, st with
  | [.ref a0], [] => f a0 h
  | _, _ => none
set_option maxRecDepth 100000 in
theorem eM_setupLength (a0 : Nat) (h : XH) : qM_setupLength a0 h = xrun BM_setupLength (xfind []) 9 0 (List.zip [0] [.ref a0]) [] h := rfl
theorem tM_setupLength : XTo cX9_setupLength 1 RX9 1 5 112 0 [0] (wM_setupLength (qM_setupLength)) := by
  refine XTo.run (B := BM_setupLength) (cut := xfind []) kM_setupLength (xcuts_ok (fun _ h => absurd h List.not_mem_nil)) 9 (fun vs st h r hr => ?_)
  unfold wM_setupLength at hr
  split at hr
  · exact (eM_setupLength _ _).symm.trans hr
  · cases hr
def FM_setupLength : List Value → XH → XR := fun vs h => match vs with
  | [.ref a0] => qM_setupLength a0 h
  | _ => none
theorem SM_setupLength : XS yX9_setupLength cX9_setupLength 1 (some .int) (xrm 5 112) FM_setupLength := by
  refine XS.of (own := RX9) (by decide) rfl (rk := 1) rfl (tM_setupLength) (fun vs h r hr => ?_)
  unfold FM_setupLength at hr
  split at hr
  · exact ⟨rfl, Nat.le_of_ble_eq_true rfl, hr⟩
  · cases hr
-- LineDiagram.setupByte(I)I
def rD_setupByte : List (Nat × XRow) := [(0, (.iload_n 1, 1, 1, .null, [])),
  (1, (.ifCond .ge 5, 4, 6, .null, [])),
  (4, (.iconst (-1), 5, 0, .int (-1 : Int32), [])),
  (5, (.ireturn, 6, 0, .null, [])),
  (6, (.aload_n 0, 7, 0, .null, [])),
  (7, (.getfield 29, 10, 29, .null, [])),
  (10, (.aload_n 0, 11, 0, .null, [])),
  (11, (.getfield 16, 14, 16, .null, [])),
  (14, (.invokevirtual 339, 17, 339, .null, [])),
  (17, (.iload_n 1, 18, 1, .null, [])),
  (18, (.aload_n 0, 19, 0, .null, [])),
  (19, (.getfield 16, 22, 16, .null, [])),
  (22, (.getfield 83, 25, 83, .null, [])),
  (25, (.if_icmp .lt 8, 28, 33, .null, [])),
  (28, (.bipush (-2), 30, 0, .int (-2 : Int32), [])),
  (30, (.goto 11, 33, 41, .null, [])),
  (33, (.aload_n 0, 34, 0, .null, [])),
  (34, (.getfield 16, 37, 16, .null, [])),
  (37, (.iload_n 1, 38, 1, .null, [])),
  (38, (.invokevirtual 343, 41, 343, .null, [])),
  (41, (.ireturn, 42, 0, .null, []))]
def mD_setupByte : List (Nat × XM) := [(339, (2, 0, some 5, FP_describe)), (343, (2, 1, some 6, FT_byteAt))]
abbrev BD_setupByte : XB := (rD_setupByte, XFT_D, mD_setupByte, 1, XST_D)
set_option maxRecDepth 100000 in
theorem kD_setupByte : XOK BD_setupByte cX8_setupByte 2 RX8 7 151 := xok_of (cps := []) (K := XKT_D) (by decide +kernel) XKT_D_ok (fun _ h => absurd h List.not_mem_nil) XFT_D_ok (List.forall_mem_cons.mpr ⟨⟨_, _, _, _, _, _, _, SP_describe, rfl, rfl, Nat.le_of_ble_eq_true rfl, Nat.le_of_ble_eq_true rfl, cdP_describe, lkD_339, imP_describe, slP_describe, inP_describe, pmP_describe⟩, List.forall_mem_cons.mpr ⟨⟨_, _, _, _, _, _, _, ST_byteAt, rfl, rfl, Nat.le_of_ble_eq_true rfl, Nat.le_of_ble_eq_true rfl, cdT_byteAt, lkD_343, imT_byteAt, slT_byteAt, inT_byteAt, pmT_byteAt⟩, fun _ h => absurd h List.not_mem_nil⟩⟩) XST_D_ok
def wD_setupByte (f : Nat → Int32 → XH → XR) : List Value → List Value → XH → XR := fun vs st h => match vs, st with
  | [.ref a0, .int x1], [] => f a0 x1 h
  | _, _ => none
set_option maxRecDepth 100000 in
theorem eD_setupByte (a0 : Nat) (x1 : Int32) (h : XH) : qD_setupByte a0 x1 h = xrun BD_setupByte (xfind []) 24 0 (List.zip [0, 1] [.ref a0, .int x1]) [] h := rfl
theorem tD_setupByte : XTo cX8_setupByte 2 RX8 1 7 151 0 [0, 1] (wD_setupByte (qD_setupByte)) := by
  refine XTo.run (B := BD_setupByte) (cut := xfind []) kD_setupByte (xcuts_ok (fun _ h => absurd h List.not_mem_nil)) 24 (fun vs st h r hr => ?_)
  unfold wD_setupByte at hr
  split at hr
  · exact (eD_setupByte _ _ _).symm.trans hr
  · cases hr
def FD_setupByte : List Value → XH → XR := fun vs h => match vs with
  | [.ref a0, .int x1] => qD_setupByte a0 x1 h
  | _ => none
theorem SD_setupByte : XS yX8_setupByte cX8_setupByte 2 (some .int) (xrm 7 151) FD_setupByte := by
  refine XS.of (own := RX8) (by decide) rfl (rk := 1) rfl (tD_setupByte) (fun vs h r hr => ?_)
  unfold FD_setupByte at hr
  split at hr
  · exact ⟨rfl, Nat.le_of_ble_eq_true rfl, hr⟩
  · cases hr
-- LineDiagramModel.setupByte(I)I
def rM_setupByte : List (Nat × XRow) := [(0, (.iload_n 1, 1, 1, .null, [])),
  (1, (.ifCond .ge 5, 4, 6, .null, [])),
  (4, (.iconst (-1), 5, 0, .int (-1 : Int32), [])),
  (5, (.ireturn, 6, 0, .null, [])),
  (6, (.aload_n 0, 7, 0, .null, [])),
  (7, (.iload_n 1, 8, 1, .null, [])),
  (8, (.invokevirtual 513, 11, 513, .null, [])),
  (11, (.aload_n 0, 12, 0, .null, [])),
  (12, (.getfield 479, 15, 479, .null, [])),
  (15, (.ireturn, 16, 0, .null, []))]
def mM_setupByte : List (Nat × XM) := [(513, (2, 0, some 9, FM_saysSetup))]
abbrev BM_setupByte : XB := (rM_setupByte, XFT_M, mM_setupByte, 1, XST_M)
set_option maxRecDepth 100000 in
theorem kM_setupByte : XOK BM_setupByte cX9_setupByte 2 RX9 5 112 := xok_of (cps := []) (K := XKT_M) (by decide +kernel) XKT_M_ok (fun _ h => absurd h List.not_mem_nil) XFT_M_ok (List.forall_mem_cons.mpr ⟨⟨_, _, _, _, _, _, _, SM_saysSetup, rfl, rfl, Nat.le_of_ble_eq_true rfl, Nat.le_of_ble_eq_true rfl, cdM_saysSetup, lkM_513, imM_saysSetup, slM_saysSetup, inM_saysSetup, pmM_saysSetup⟩, fun _ h => absurd h List.not_mem_nil⟩) XST_M_ok
def wM_setupByte (f : Nat → Int32 → XH → XR) : List Value → List Value → XH → XR := fun vs st h => match vs, st with
  | [.ref a0, .int x1], [] => f a0 x1 h
  | _, _ => none
set_option maxRecDepth 100000 in
theorem eM_setupByte (a0 : Nat) (x1 : Int32) (h : XH) : qM_setupByte a0 x1 h = xrun BM_setupByte (xfind []) 13 0 (List.zip [0, 1] [.ref a0, .int x1]) [] h := rfl
theorem tM_setupByte : XTo cX9_setupByte 2 RX9 1 5 112 0 [0, 1] (wM_setupByte (qM_setupByte)) := by
  refine XTo.run (B := BM_setupByte) (cut := xfind []) kM_setupByte (xcuts_ok (fun _ h => absurd h List.not_mem_nil)) 13 (fun vs st h r hr => ?_)
  unfold wM_setupByte at hr
  split at hr
  · exact (eM_setupByte _ _ _).symm.trans hr
  · cases hr
def FM_setupByte : List Value → XH → XR := fun vs h => match vs with
  | [.ref a0, .int x1] => qM_setupByte a0 x1 h
  | _ => none
theorem SM_setupByte : XS yX9_setupByte cX9_setupByte 2 (some .int) (xrm 5 112) FM_setupByte := by
  refine XS.of (own := RX9) (by decide) rfl (rk := 1) rfl (tM_setupByte) (fun vs h r hr => ?_)
  unfold FM_setupByte at hr
  split at hr
  · exact ⟨rfl, Nat.le_of_ble_eq_true rfl, hr⟩
  · cases hr
-- LineDiagram.tapeLength()I
def rD_tapeLength : List (Nat × XRow) := [(0, (.aload_n 0, 1, 0, .null, [])),
  (1, (.getfield 10, 4, 10, .null, [])),
  (4, (.getfield 83, 7, 83, .null, [])),
  (7, (.ireturn, 8, 0, .null, []))]
def mD_tapeLength : List (Nat × XM) := []
abbrev BD_tapeLength : XB := (rD_tapeLength, XFT_D, mD_tapeLength, 1, XST_D)
set_option maxRecDepth 100000 in
theorem kD_tapeLength : XOK BD_tapeLength cX8_tapeLength 1 RX8 0 0 := xok_of (cps := []) (K := XKT_D) (by decide +kernel) XKT_D_ok (fun _ h => absurd h List.not_mem_nil) XFT_D_ok (fun _ h => absurd h List.not_mem_nil) XST_D_ok
def wD_tapeLength (f : Nat → XH → XR) : List Value → List Value → XH → XR := fun vs st h => match vs, st with
  | [.ref a0], [] => f a0 h
  | _, _ => none
set_option maxRecDepth 100000 in
theorem eD_tapeLength (a0 : Nat) (h : XH) : qD_tapeLength a0 h = xrun BD_tapeLength (xfind []) 7 0 (List.zip [0] [.ref a0]) [] h := rfl
theorem tD_tapeLength : XTo cX8_tapeLength 1 RX8 1 0 0 0 [0] (wD_tapeLength (qD_tapeLength)) := by
  refine XTo.run (B := BD_tapeLength) (cut := xfind []) kD_tapeLength (xcuts_ok (fun _ h => absurd h List.not_mem_nil)) 7 (fun vs st h r hr => ?_)
  unfold wD_tapeLength at hr
  split at hr
  · exact (eD_tapeLength _ _).symm.trans hr
  · cases hr
def FD_tapeLength : List Value → XH → XR := fun vs h => match vs with
  | [.ref a0] => qD_tapeLength a0 h
  | _ => none
theorem SD_tapeLength : XS yX8_tapeLength cX8_tapeLength 1 (some .int) (xrm 0 0) FD_tapeLength := by
  refine XS.of (own := RX8) (by decide) rfl (rk := 1) rfl (tD_tapeLength) (fun vs h r hr => ?_)
  unfold FD_tapeLength at hr
  split at hr
  · exact ⟨rfl, Nat.le_of_ble_eq_true rfl, hr⟩
  · cases hr
