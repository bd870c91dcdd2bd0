-- LineDiagram$Board.byteOf(I)I
def rB_byteOf : List (Nat × XRow) := [(0, (.aload_n 0, 1, 0, .null, [])),
  (1, (.getfield 18, 4, 18, .null, [])),
  (4, (.iload_n 1, 5, 1, .null, [])),
  (5, (.iaload, 6, 0, .null, [])),
  (6, (.ifCond .le 6, 9, 12, .null, [])),
  (9, (.bipush 111, 11, 0, .int (111 : Int32), [])),
  (11, (.ireturn, 12, 0, .null, [])),
  (12, (.aload_n 0, 13, 0, .null, [])),
  (13, (.iload_n 1, 14, 1, .null, [])),
  (14, (.sipush 255, 17, 0, .int (255 : Int32), [])),
  (17, (.invokevirtual 134, 20, 134, .null, [])),
  (20, (.ifCond .eq 6, 23, 26, .null, [])),
  (23, (.bipush 43, 25, 0, .int (43 : Int32), [])),
  (25, (.ireturn, 26, 0, .null, [])),
  (26, (.aload_n 0, 27, 0, .null, [])),
  (27, (.getfield 9, 30, 9, .null, [])),
  (30, (.iload_n 1, 31, 1, .null, [])),
  (31, (.iaload, 32, 0, .null, [])),
  (32, (.ifCond .eq 12, 35, 44, .null, [])),
  (35, (.bipush 48, 37, 0, .int (48 : Int32), [])),
  (37, (.aload_n 0, 38, 0, .null, [])),
  (38, (.iload_n 1, 39, 1, .null, [])),
  (39, (.invokevirtual 171, 42, 171, .null, [])),
  (42, (.iadd, 43, 0, .null, [])),
  (43, (.ireturn, 44, 0, .null, [])),
  (44, (.aload_n 0, 45, 0, .null, [])),
  (45, (.getfield 27, 48, 27, .null, [])),
  (48, (.iload_n 1, 49, 1, .null, [])),
  (49, (.iaload, 50, 0, .null, [])),
  (50, (.ifCond .eq 8, 53, 58, .null, [])),
  (53, (.bipush 61, 55, 0, .int (61 : Int32), [])),
  (55, (.goto 5, 58, 60, .null, [])),
  (58, (.bipush 46, 60, 0, .int (46 : Int32), [])),
  (60, (.ireturn, 61, 0, .null, []))]
def mB_byteOf : List (Nat × XM) := [(134, (3, 1, some 0, FB_isCrossing)), (171, (2, 1, some 0, FB_firstLineOn))]
abbrev BB_byteOf : XB := (rB_byteOf, XFT_B, mB_byteOf, 1, XST_B)
set_option maxRecDepth 100000 in
theorem kB_byteOf : XOK BB_byteOf cX0_byteOf 2 RX0 2 42 := xok_of (cps := []) (K := XKT_B) (by decide +kernel) XKT_B_ok (fun _ h => absurd h List.not_mem_nil) XFT_B_ok (List.forall_mem_cons.mpr ⟨⟨_, _, _, _, _, _, _, SB_isCrossing, rfl, rfl, Nat.le_of_ble_eq_true rfl, Nat.le_of_ble_eq_true rfl, cdB_isCrossing, lkB_134, imB_isCrossing, slB_isCrossing, inB_isCrossing, pmB_isCrossing⟩, List.forall_mem_cons.mpr ⟨⟨_, _, _, _, _, _, _, SB_firstLineOn, rfl, rfl, Nat.le_of_ble_eq_true rfl, Nat.le_of_ble_eq_true rfl, cdB_firstLineOn, lkB_171, imB_firstLineOn, slB_firstLineOn, inB_firstLineOn, pmB_firstLineOn⟩, fun _ h => absurd h List.not_mem_nil⟩⟩) XST_B_ok
def wB_byteOf (f : Nat → Int32 → XH → XR) : List Value → List Value → XH → XR := fun vs st h => match vs, st with
  | [.ref a0, .int x1], [] => f a0 x1 h
  | _, _ => none
set_option maxRecDepth 100000 in
theorem eB_byteOf (a0 : Nat) (x1 : Int32) (h : XH) : qB_byteOf a0 x1 h = xrun BB_byteOf (xfind []) 37 0 (List.zip [0, 1] [.ref a0, .int x1]) [] h := rfl
theorem tB_byteOf : XTo cX0_byteOf 2 RX0 1 2 42 0 [0, 1] (wB_byteOf (qB_byteOf)) := by
  refine XTo.run (B := BB_byteOf) (cut := xfind []) kB_byteOf (xcuts_ok (fun _ h => absurd h List.not_mem_nil)) 37 (fun vs st h r hr => ?_)
  unfold wB_byteOf at hr
  split at hr
  · exact (eB_byteOf _ _ _).symm.trans hr
  · cases hr
def FB_byteOf : List Value → XH → XR := fun vs h => match vs with
  | [.ref a0, .int x1] => qB_byteOf a0 x1 h
  | _ => none
theorem SB_byteOf : XS yX0_byteOf cX0_byteOf 2 (some .int) (xrm 2 42) FB_byteOf := by
  refine XS.of (own := RX0) (by decide) rfl (rk := 1) rfl (tB_byteOf) (fun vs h r hr => ?_)
  unfold FB_byteOf at hr
  split at hr
  · exact ⟨rfl, Nat.le_of_ble_eq_true rfl, hr⟩
  · cases hr
-- LineDiagram.pictureByte(I)I
def rD_pictureByte : List (Nat × XRow) := [(0, (.iload_n 1, 1, 1, .null, [])),
  (1, (.ifCond .ge 5, 4, 6, .null, [])),
  (4, (.iconst (-1), 5, 0, .int (-1 : Int32), [])),
  (5, (.ireturn, 6, 0, .null, [])),
  (6, (.aload_n 0, 7, 0, .null, [])),
  (7, (.getfield 29, 10, 29, .null, [])),
  (10, (.getfield 209, 13, 209, .null, [])),
  (13, (.iconst 1, 14, 0, .int (1 : Int32), [])),
  (14, (.iadd, 15, 0, .null, [])),
  (15, (.istore_n 2, 16, 2, .null, [])),
  (16, (.iload_n 2, 17, 2, .null, [])),
  (17, (.iconst 1, 18, 0, .int (1 : Int32), [])),
  (18, (.if_icmp .lt 16, 21, 34, .null, [])),
  (21, (.iload_n 1, 22, 1, .null, [])),
  (22, (.iload_n 2, 23, 2, .null, [])),
  (23, (.aload_n 0, 24, 0, .null, [])),
  (24, (.getfield 29, 27, 29, .null, [])),
  (27, (.getfield 212, 30, 212, .null, [])),
  (30, (.imul, 31, 0, .null, [])),
  (31, (.if_icmp .lt 6, 34, 37, .null, [])),
  (34, (.bipush (-2), 36, 0, .int (-2 : Int32), [])),
  (36, (.ireturn, 37, 0, .null, [])),
  (37, (.iload_n 1, 38, 1, .null, [])),
  (38, (.iload_n 2, 39, 2, .null, [])),
  (39, (.irem, 40, 0, .null, [])),
  (40, (.istore_n 3, 41, 3, .null, [])),
  (41, (.iload_n 3, 42, 3, .null, [])),
  (42, (.aload_n 0, 43, 0, .null, [])),
  (43, (.getfield 29, 46, 29, .null, [])),
  (46, (.getfield 209, 49, 209, .null, [])),
  (49, (.if_icmp .ne 8, 52, 57, .null, [])),
  (52, (.bipush 10, 54, 0, .int (10 : Int32), [])),
  (54, (.goto 17, 57, 71, .null, [])),
  (57, (.aload_n 0, 58, 0, .null, [])),
  (58, (.getfield 54, 61, 54, .null, [])),
  (61, (.iload_n 3, 62, 3, .null, [])),
  (62, (.iload_n 1, 63, 1, .null, [])),
  (63, (.iload_n 2, 64, 2, .null, [])),
  (64, (.idiv, 65, 0, .null, [])),
  (65, (.invokestatic 284, 68, 284, .null, [])),
  (68, (.invokevirtual 336, 71, 336, .null, [])),
  (71, (.ireturn, 72, 0, .null, []))]
def mD_pictureByte : List (Nat × XM) := [(284, (2, 1, none, FD_cellAt)), (336, (2, 1, some 0, FB_byteOf))]
abbrev BD_pictureByte : XB := (rD_pictureByte, XFT_D, mD_pictureByte, 1, XST_D)
set_option maxRecDepth 100000 in
theorem kD_pictureByte : XOK BD_pictureByte cX8_pictureByte 4 RX8 3 63 := xok_of (cps := []) (K := XKT_D) (by decide +kernel) XKT_D_ok (fun _ h => absurd h List.not_mem_nil) XFT_D_ok (List.forall_mem_cons.mpr ⟨⟨_, _, _, _, _, _, SD_cellAt, Nat.le_of_ble_eq_true rfl, Nat.le_of_ble_eq_true rfl, cdD_cellAt, lkD_284, imD_cellAt, inD_cellAt, pmD_cellAt⟩, List.forall_mem_cons.mpr ⟨⟨_, _, _, _, _, _, _, SB_byteOf, rfl, rfl, Nat.le_of_ble_eq_true rfl, Nat.le_of_ble_eq_true rfl, cdB_byteOf, lkD_336, imB_byteOf, slB_byteOf, inB_byteOf, pmB_byteOf⟩, fun _ h => absurd h List.not_mem_nil⟩⟩) XST_D_ok
def wD_pictureByte (f : Nat → Int32 → XH → XR) : List Value → List Value → XH → XR := fun vs st h => match vs, st with
  | [.ref a0, .int x1], [] => f a0 x1 h
  | _, _ => none
set_option maxRecDepth 100000 in
theorem eD_pictureByte (a0 : Nat) (x1 : Int32) (h : XH) : qD_pictureByte a0 x1 h = xrun BD_pictureByte (xfind []) 45 0 (List.zip [0, 1] [.ref a0, .int x1]) [] h := rfl
theorem tD_pictureByte : XTo cX8_pictureByte 4 RX8 1 3 63 0 [0, 1] (wD_pictureByte (qD_pictureByte)) := by
  refine XTo.run (B := BD_pictureByte) (cut := xfind []) kD_pictureByte (xcuts_ok (fun _ h => absurd h List.not_mem_nil)) 45 (fun vs st h r hr => ?_)
  unfold wD_pictureByte at hr
  split at hr
  · exact (eD_pictureByte _ _ _).symm.trans hr
  · cases hr
def FD_pictureByte : List Value → XH → XR := fun vs h => match vs with
  | [.ref a0, .int x1] => qD_pictureByte a0 x1 h
  | _ => none
theorem SD_pictureByte : XS yX8_pictureByte cX8_pictureByte 4 (some .int) (xrm 3 63) FD_pictureByte := by
  refine XS.of (own := RX8) (by decide) rfl (rk := 1) rfl (tD_pictureByte) (fun vs h r hr => ?_)
  unfold FD_pictureByte at hr
  split at hr
  · exact ⟨rfl, Nat.le_of_ble_eq_true rfl, hr⟩
  · cases hr
-- LineDiagramModel.pictureByte(I)I
def rM_pictureByte : List (Nat × XRow) := [(0, (.iload_n 1, 1, 1, .null, [])),
  (1, (.ifCond .ge 5, 4, 6, .null, [])),
  (4, (.iconst (-1), 5, 0, .int (-1 : Int32), [])),
  (5, (.ireturn, 6, 0, .null, [])),
  (6, (.aload_n 0, 7, 0, .null, [])),
  (7, (.iload_n 1, 8, 1, .null, [])),
  (8, (.invokevirtual 496, 11, 496, .null, [])),
  (11, (.aload_n 0, 12, 0, .null, [])),
  (12, (.getfield 479, 15, 479, .null, [])),
  (15, (.ireturn, 16, 0, .null, []))]
def mM_pictureByte : List (Nat × XM) := [(496, (2, 0, some 9, FM_saysPicture))]
abbrev BM_pictureByte : XB := (rM_pictureByte, XFT_M, mM_pictureByte, 1, XST_M)
set_option maxRecDepth 100000 in
theorem kM_pictureByte : XOK BM_pictureByte cX9_pictureByte 2 RX9 7 161 := xok_of (cps := []) (K := XKT_M) (by decide +kernel) XKT_M_ok (fun _ h => absurd h List.not_mem_nil) XFT_M_ok (List.forall_mem_cons.mpr ⟨⟨_, _, _, _, _, _, _, SM_saysPicture, rfl, rfl, Nat.le_of_ble_eq_true rfl, Nat.le_of_ble_eq_true rfl, cdM_saysPicture, lkM_496, imM_saysPicture, slM_saysPicture, inM_saysPicture, pmM_saysPicture⟩, fun _ h => absurd h List.not_mem_nil⟩) XST_M_ok
def wM_pictureByte (f : Nat → Int32 → XH → XR) : List Value → List Value → XH → XR := fun vs st h => match vs, st with
  | [.ref a0, .int x1], [] => f a0 x1 h
  | _, _ => none
set_option maxRecDepth 100000 in
theorem eM_pictureByte (a0 : Nat) (x1 : Int32) (h : XH) : qM_pictureByte a0 x1 h = xrun BM_pictureByte (xfind []) 13 0 (List.zip [0, 1] [.ref a0, .int x1]) [] h := rfl
theorem tM_pictureByte : XTo cX9_pictureByte 2 RX9 1 7 161 0 [0, 1] (wM_pictureByte (qM_pictureByte)) := by
  refine XTo.run (B := BM_pictureByte) (cut := xfind []) kM_pictureByte (xcuts_ok (fun _ h => absurd h List.not_mem_nil)) 13 (fun vs st h r hr => ?_)
  unfold wM_pictureByte at hr
  split at hr
  · exact (eM_pictureByte _ _ _).symm.trans hr
  · cases hr
def FM_pictureByte : List Value → XH → XR := fun vs h => match vs with
  | [.ref a0, .int x1] => qM_pictureByte a0 x1 h
  | _ => none
theorem SM_pictureByte : XS yX9_pictureByte cX9_pictureByte 2 (some .int) (xrm 7 161) FM_pictureByte := by
  refine XS.of (own := RX9) (by decide) rfl (rk := 1) rfl (tM_pictureByte) (fun vs h r hr => ?_)
  unfold FM_pictureByte at hr
  split at hr
  · exact ⟨rfl, Nat.le_of_ble_eq_true rfl, hr⟩
  · cases hr
-- java/lang/String.coder()B
def rJS_coder : List (Nat × XRow) := [(0, (.getstatic 38, 3, 38, .null, [])),
  (3, (.ifCond .eq 10, 6, 13, .null, [])),
  (6, (.aload_n 0, 7, 0, .null, [])),
  (7, (.getfield 15, 10, 15, .null, [])),
  (10, (.goto 4, 13, 14, .null, [])),
  (13, (.iconst 1, 14, 0, .int (1 : Int32), [])),
  (14, (.ireturn, 15, 0, .null, []))]
def mJS_coder : List (Nat × XM) := []
abbrev BJS_coder : XB := (rJS_coder, XFT_JS, mJS_coder, 7, XST_JS)
set_option maxRecDepth 100000 in
theorem kJS_coder : XOK BJS_coder cJ0_coder_7d493 1 RJ0 0 0 := xok_of (cps := []) (K := XKT_JS) (by decide +kernel) XKT_JS_ok (fun _ h => absurd h List.not_mem_nil) XFT_JS_ok (fun _ h => absurd h List.not_mem_nil) XST_JS_ok
def wJS_coder (f : Nat → XH → XR) : List Value → List Value → XH → XR := fun vs st h => match vs, st with
  | [.ref a0], [] => f a0 h
  | _, _ => none
set_option maxRecDepth 100000 in
theorem eJS_coder (a0 : Nat) (h : XH) : qJS_coder a0 h = xrun BJS_coder (xfind []) 10 0 (List.zip [0] [.ref a0]) [] h := rfl
theorem tJS_coder : XTo cJ0_coder_7d493 1 RJ0 7 0 0 0 [0] (wJS_coder (qJS_coder)) := by
  refine XTo.run (B := BJS_coder) (cut := xfind []) kJS_coder (xcuts_ok (fun _ h => absurd h List.not_mem_nil)) 10 (fun vs st h r hr => ?_)
  unfold wJS_coder at hr
  split at hr
  · exact (eJS_coder _ _).symm.trans hr
  · cases hr
def FJS_coder : List Value → XH → XR := fun vs h => match vs with
  | [.ref a0] => qJS_coder a0 h
  | _ => none
theorem SJS_coder : XS yJ0_coder_7d493 cJ0_coder_7d493 1 (some .byte) (xrm 0 0) FJS_coder := by
  refine XS.of (own := RJ0) (by decide) rfl (rk := 7) rfl (tJS_coder) (fun vs h r hr => ?_)
  unfold FJS_coder at hr
  split at hr
  · exact ⟨rfl, Nat.le_of_ble_eq_true rfl, hr⟩
  · cases hr
-- java/lang/String.length()I
def rJS_length : List (Nat × XRow) := [(0, (.aload_n 0, 1, 0, .null, [])),
  (1, (.getfield 9, 4, 9, .null, [])),
  (4, (.arraylength, 5, 0, .null, [])),
  (5, (.aload_n 0, 6, 0, .null, [])),
  (6, (.invokevirtual 335, 9, 335, .null, [])),
  (9, (.ishr, 10, 0, .null, [])),
  (10, (.ireturn, 11, 0, .null, []))]
def mJS_length : List (Nat × XM) := [(335, (1, 1, some 10, FJS_coder))]
abbrev BJS_length : XB := (rJS_length, XFT_JS, mJS_length, 1, XST_JS)
set_option maxRecDepth 100000 in
theorem kJS_length : XOK BJS_length cJ0_length_8abf5 1 RJ0 1 20 := xok_of (cps := []) (K := XKT_JS) (by decide +kernel) XKT_JS_ok (fun _ h => absurd h List.not_mem_nil) XFT_JS_ok (List.forall_mem_cons.mpr ⟨⟨_, _, _, _, _, _, _, SJS_coder, rfl, rfl, Nat.le_of_ble_eq_true rfl, Nat.le_of_ble_eq_true rfl, cdJS_coder, lkJS_335, imJS_coder, slJS_coder, inJS_coder, pmJS_coder⟩, fun _ h => absurd h List.not_mem_nil⟩) XST_JS_ok
def wJS_length (f : Nat → XH → XR) : List Value → List Value → XH → XR := fun vs st h => match vs, st with
  | [.ref a0], [] => f a0 h
  | _, _ => none
set_option maxRecDepth 100000 in
theorem eJS_length (a0 : Nat) (h : XH) : qJS_length a0 h = xrun BJS_length (xfind []) 10 0 (List.zip [0] [.ref a0]) [] h := rfl
theorem tJS_length : XTo cJ0_length_8abf5 1 RJ0 1 1 20 0 [0] (wJS_length (qJS_length)) := by
  refine XTo.run (B := BJS_length) (cut := xfind []) kJS_length (xcuts_ok (fun _ h => absurd h List.not_mem_nil)) 10 (fun vs st h r hr => ?_)
  unfold wJS_length at hr
  split at hr
  · exact (eJS_length _ _).symm.trans hr
  · cases hr
def FJS_length : List Value → XH → XR := fun vs h => match vs with
  | [.ref a0] => qJS_length a0 h
  | _ => none
theorem SJS_length : XS yJ0_length_8abf5 cJ0_length_8abf5 1 (some .int) (xrm 1 20) FJS_length := by
  refine XS.of (own := RJ0) (by decide) rfl (rk := 1) rfl (tJS_length) (fun vs h r hr => ?_)
  unfold FJS_length at hr
  split at hr
  · exact ⟨rfl, Nat.le_of_ble_eq_true rfl, hr⟩
  · cases hr
-- LineDiagram$Text.addNumber(I)V
def rT_addNumber : List (Nat × XRow) := [(0, (.aload_n 0, 1, 0, .null, [])),
  (1, (.bipush 32, 3, 0, .int (32 : Int32), [])),
  (3, (.invokevirtual 19, 6, 19, .null, [])),
  (6, (.iload_n 1, 7, 1, .null, [])),
  (7, (.bipush 10, 9, 0, .int (10 : Int32), [])),
  (9, (.if_icmp .lt 14, 12, 23, .null, [])),
  (12, (.aload_n 0, 13, 0, .null, [])),
  (13, (.bipush 48, 15, 0, .int (48 : Int32), [])),
  (15, (.iload_n 1, 16, 1, .null, [])),
  (16, (.bipush 10, 18, 0, .int (10 : Int32), [])),
  (18, (.idiv, 19, 0, .null, [])),
  (19, (.iadd, 20, 0, .null, [])),
  (20, (.invokevirtual 19, 23, 19, .null, [])),
  (23, (.aload_n 0, 24, 0, .null, [])),
  (24, (.bipush 48, 26, 0, .int (48 : Int32), [])),
  (26, (.iload_n 1, 27, 1, .null, [])),
  (27, (.bipush 10, 29, 0, .int (10 : Int32), [])),
  (29, (.irem, 30, 0, .null, [])),
  (30, (.iadd, 31, 0, .null, [])),
  (31, (.invokevirtual 19, 34, 19, .null, [])),
  (34, (.return_, 35, 0, .null, []))]
def mT_addNumber : List (Nat × XM) := [(19, (2, 0, some 6, FT_addByte))]
abbrev BT_addNumber : XB := (rT_addNumber, XFT_T, mT_addNumber, 0, XST_T)
set_option maxRecDepth 100000 in
theorem kT_addNumber : XOK BT_addNumber cX6_addNumber 2 RX6 1 21 := xok_of (cps := []) (K := XKT_T) (by decide +kernel) XKT_T_ok (fun _ h => absurd h List.not_mem_nil) XFT_T_ok (List.forall_mem_cons.mpr ⟨⟨_, _, _, _, _, _, _, ST_addByte, rfl, rfl, Nat.le_of_ble_eq_true rfl, Nat.le_of_ble_eq_true rfl, cdT_addByte, lkT_19, imT_addByte, slT_addByte, inT_addByte, pmT_addByte⟩, fun _ h => absurd h List.not_mem_nil⟩) XST_T_ok
def wT_addNumber_23 (f : Nat → Int32 → XH → XR) : List Value → List Value → XH → XR := fun vs st h => match vs, st with
  | [.ref a0, .int x1], [] => f a0 x1 h
  | _, _ => none
def wT_addNumber (f : Nat → Int32 → XH → XR) : List Value → List Value → XH → XR := fun vs st h => match vs, st with
  | [.ref a0, .int x1], [] => f a0 x1 h
  | _, _ => none
set_option maxRecDepth 100000 in
theorem eT_addNumber_23 (a0 : Nat) (x1 : Int32) (h : XH) : qT_addNumber_23 a0 x1 h = xrun BT_addNumber (xfind []) 24 23 (List.zip [0, 1] [.ref a0, .int x1]) [] h := rfl
theorem tT_addNumber_23 : XTo cX6_addNumber 2 RX6 0 1 21 23 [0, 1] (wT_addNumber_23 (qT_addNumber_23)) := by
  refine XTo.run (B := BT_addNumber) (cut := xfind []) kT_addNumber (xcuts_ok (fun _ h => absurd h List.not_mem_nil)) 24 (fun vs st h r hr => ?_)
  unfold wT_addNumber_23 at hr
  split at hr
  · exact (eT_addNumber_23 _ _ _).symm.trans hr
  · cases hr
set_option maxRecDepth 100000 in
theorem eT_addNumber (a0 : Nat) (x1 : Int32) (h : XH) : qT_addNumber a0 x1 h = xrun BT_addNumber (xfind [(23, ([0, 1], wT_addNumber_23 (qT_addNumber_23)))]) 24 0 (List.zip [0, 1] [.ref a0, .int x1]) [] h := rfl
theorem tT_addNumber : XTo cX6_addNumber 2 RX6 0 1 21 0 [0, 1] (wT_addNumber (qT_addNumber)) := by
  refine XTo.run (B := BT_addNumber) (cut := xfind [(23, ([0, 1], wT_addNumber_23 (qT_addNumber_23)))]) kT_addNumber (xcuts_ok (List.forall_mem_cons.mpr ⟨tT_addNumber_23, fun _ h => absurd h List.not_mem_nil⟩)) 24 (fun vs st h r hr => ?_)
  unfold wT_addNumber at hr
  split at hr
  · exact (eT_addNumber _ _ _).symm.trans hr
  · cases hr
def FT_addNumber : List Value → XH → XR := fun vs h => match vs with
  | [.ref a0, .int x1] => qT_addNumber a0 x1 h
  | _ => none
theorem ST_addNumber : XS yX6_addNumber cX6_addNumber 2 none (xrm 1 21) FT_addNumber := by
  refine XS.of (own := RX6) (by decide) rfl (rk := 0) rfl (tT_addNumber) (fun vs h r hr => ?_)
  unfold FT_addNumber at hr
  split at hr
  · exact ⟨rfl, Nat.le_of_ble_eq_true rfl, hr⟩
  · cases hr
-- LineDiagram$Text.addName(I)V
def rT_addName : List (Nat × XRow) := [(0, (.iconst 0, 1, 0, .int (0 : Int32), [])),
  (1, (.istore_n 2, 2, 2, .null, [])),
  (2, (.iload_n 2, 3, 2, .null, [])),
  (3, (.bipush 6, 5, 0, .int (6 : Int32), [])),
  (5, (.if_icmp .ge 27, 8, 32, .null, [])),
  (8, (.iload_n 1, 9, 1, .null, [])),
  (9, (.iload_n 2, 10, 2, .null, [])),
  (10, (.invokestatic 32, 13, 32, .null, [])),
  (13, (.istore_n 3, 14, 3, .null, [])),
  (14, (.iload_n 3, 15, 3, .null, [])),
  (15, (.ifCond .eq 11, 18, 26, .null, [])),
  (18, (.aload_n 0, 19, 0, .null, [])),
  (19, (.bipush 96, 21, 0, .int (96 : Int32), [])),
  (21, (.iload_n 3, 22, 3, .null, [])),
  (22, (.iadd, 23, 0, .null, [])),
  (23, (.invokevirtual 19, 26, 19, .null, [])),
  (26, (.iinc 2 1, 29, 2, .int (1 : Int32), [])),
  (29, (.goto (-27), 32, 2, .null, [])),
  (32, (.return_, 33, 0, .null, []))]
def mT_addName : List (Nat × XM) := [(19, (2, 0, some 6, FT_addByte)), (32, (2, 1, none, FD_letterOf))]
abbrev BT_addName : XB := (rT_addName, XFT_T, mT_addName, 0, XST_T)
set_option maxRecDepth 100000 in
theorem kT_addName : XOK BT_addName cX6_addName 4 RX6 2 41 := xok_of (cps := []) (K := XKT_T) (by decide +kernel) XKT_T_ok (fun _ h => absurd h List.not_mem_nil) XFT_T_ok (List.forall_mem_cons.mpr ⟨⟨_, _, _, _, _, _, _, ST_addByte, rfl, rfl, Nat.le_of_ble_eq_true rfl, Nat.le_of_ble_eq_true rfl, cdT_addByte, lkT_19, imT_addByte, slT_addByte, inT_addByte, pmT_addByte⟩, List.forall_mem_cons.mpr ⟨⟨_, _, _, _, _, _, SD_letterOf, Nat.le_of_ble_eq_true rfl, Nat.le_of_ble_eq_true rfl, cdD_letterOf, lkT_32, imD_letterOf, inD_letterOf, pmD_letterOf⟩, fun _ h => absurd h List.not_mem_nil⟩⟩) XST_T_ok
def wT_addName_2 (f : Nat → Int32 → Int32 → XH → XR) : List Value → List Value → XH → XR := fun vs st h => match vs, st with
  | [.ref a0, .int x1, .int x2], [] => f a0 x1 x2 h
  | _, _ => none
def wT_addName (f : Nat → Int32 → XH → XR) : List Value → List Value → XH → XR := fun vs st h => match vs, st with
  | [.ref a0, .int x1], [] => f a0 x1 h
  | _, _ => none
set_option maxRecDepth 100000 in
theorem eT_addName_2_b (k2 : Nat → Int32 → Int32 → XH → XR) (a0 : Nat) (x1 : Int32) (x2 : Int32) (h : XH) : qT_addName_2_b k2 a0 x1 x2 h = xrun BT_addName (xfind [(2, ([0, 1, 2], wT_addName_2 (k2)))]) 22 2 (List.zip [0, 1, 2] [.ref a0, .int x1, .int x2]) [] h := rfl
theorem tT_addName_2_b {k2 : Nat → Int32 → Int32 → XH → XR} (hk2 : XTo cX6_addName 4 RX6 0 2 41 2 [0, 1, 2] (wT_addName_2 k2)) : XTo cX6_addName 4 RX6 0 2 41 2 [0, 1, 2] (wT_addName_2 (qT_addName_2_b k2)) := by
  refine XTo.run (B := BT_addName) (cut := xfind [(2, ([0, 1, 2], wT_addName_2 (k2)))]) kT_addName (xcuts_ok (List.forall_mem_cons.mpr ⟨hk2, fun _ h => absurd h List.not_mem_nil⟩)) 22 (fun vs st h r hr => ?_)
  unfold wT_addName_2 at hr
  split at hr
  · exact (eT_addName_2_b k2 _ _ _ _).symm.trans hr
  · cases hr
theorem tT_addName_2 : ∀ n : Nat, XTo cX6_addName 4 RX6 0 2 41 2 [0, 1, 2] (wT_addName_2 (qT_addName_2 n)) := by
  intro n
  induction n with
  | zero =>
    refine XTo.none fun vs st h => ?_
    unfold wT_addName_2
    split <;> rfl
  | succ n ih => exact tT_addName_2_b  ih
set_option maxRecDepth 100000 in
theorem eT_addName (a0 : Nat) (x1 : Int32) (h : XH) : qT_addName a0 x1 h = xrun BT_addName (xfind [(2, ([0, 1, 2], wT_addName_2 (qT_addName_2 LF)))]) 22 0 (List.zip [0, 1] [.ref a0, .int x1]) [] h := rfl
theorem tT_addName : XTo cX6_addName 4 RX6 0 2 41 0 [0, 1] (wT_addName (qT_addName)) := by
  refine XTo.run (B := BT_addName) (cut := xfind [(2, ([0, 1, 2], wT_addName_2 (qT_addName_2 LF)))]) kT_addName (xcuts_ok (List.forall_mem_cons.mpr ⟨tT_addName_2 LF, fun _ h => absurd h List.not_mem_nil⟩)) 22 (fun vs st h r hr => ?_)
  unfold wT_addName at hr
  split at hr
  · exact (eT_addName _ _ _).symm.trans hr
  · cases hr
def FT_addName : List Value → XH → XR := fun vs h => match vs with
  | [.ref a0, .int x1] => qT_addName a0 x1 h
  | _ => none
theorem ST_addName : XS yX6_addName cX6_addName 4 none (xrm 2 41) FT_addName := by
  refine XS.of (own := RX6) (by decide) rfl (rk := 0) rfl (tT_addName) (fun vs h r hr => ?_)
  unfold FT_addName at hr
  split at hr
  · exact ⟨rfl, Nat.le_of_ble_eq_true rfl, hr⟩
  · cases hr
-- LineDiagramModel.saysNumber(I)V
def rM_saysNumber : List (Nat × XRow) := [(0, (.iconst 1, 1, 0, .int (1 : Int32), [])),
  (1, (.istore_n 2, 2, 2, .null, [])),
  (2, (.iload_n 1, 3, 1, .null, [])),
  (3, (.iload_n 2, 4, 2, .null, [])),
  (4, (.idiv, 5, 0, .null, [])),
  (5, (.bipush 9, 7, 0, .int (9 : Int32), [])),
  (7, (.if_icmp .le 11, 10, 18, .null, [])),
  (10, (.iload_n 2, 11, 2, .null, [])),
  (11, (.bipush 10, 13, 0, .int (10 : Int32), [])),
  (13, (.imul, 14, 0, .null, [])),
  (14, (.istore_n 2, 15, 2, .null, [])),
  (15, (.goto (-13), 18, 2, .null, [])),
  (18, (.iload_n 2, 19, 2, .null, [])),
  (19, (.ifCond .le 24, 22, 43, .null, [])),
  (22, (.aload_n 0, 23, 0, .null, [])),
  (23, (.bipush 48, 25, 0, .int (48 : Int32), [])),
  (25, (.iload_n 1, 26, 1, .null, [])),
  (26, (.iload_n 2, 27, 2, .null, [])),
  (27, (.idiv, 28, 0, .null, [])),
  (28, (.bipush 10, 30, 0, .int (10 : Int32), [])),
  (30, (.irem, 31, 0, .null, [])),
  (31, (.iadd, 32, 0, .null, [])),
  (32, (.invokevirtual 484, 35, 484, .null, [])),
  (35, (.iload_n 2, 36, 2, .null, [])),
  (36, (.bipush 10, 38, 0, .int (10 : Int32), [])),
  (38, (.idiv, 39, 0, .null, [])),
  (39, (.istore_n 2, 40, 2, .null, [])),
  (40, (.goto (-22), 43, 18, .null, [])),
  (43, (.return_, 44, 0, .null, []))]
def mM_saysNumber : List (Nat × XM) := [(484, (2, 0, some 9, FM_says))]
abbrev BM_saysNumber : XB := (rM_saysNumber, XFT_M, mM_saysNumber, 0, XST_M)
set_option maxRecDepth 100000 in
theorem kM_saysNumber : XOK BM_saysNumber cX9_saysNumber 3 RX9 1 21 := xok_of (cps := []) (K := XKT_M) (by decide +kernel) XKT_M_ok (fun _ h => absurd h List.not_mem_nil) XFT_M_ok (List.forall_mem_cons.mpr ⟨⟨_, _, _, _, _, _, _, SM_says, rfl, rfl, Nat.le_of_ble_eq_true rfl, Nat.le_of_ble_eq_true rfl, cdM_says, lkM_484, imM_says, slM_says, inM_says, pmM_says⟩, fun _ h => absurd h List.not_mem_nil⟩) XST_M_ok
def wM_saysNumber_18 (f : Nat → Int32 → Int32 → XH → XR) : List Value → List Value → XH → XR := fun vs st h => match vs, st with
  | [.ref a0, .int x1, .int x2], [] => f a0 x1 x2 h
  | _, _ => none
def wM_saysNumber_2 (f : Nat → Int32 → Int32 → XH → XR) : List Value → List Value → XH → XR := fun vs st h => match vs, st with
  | [.ref a0, .int x1, .int x2], [] => f a0 x1 x2 h
  | _, _ => none
def wM_saysNumber (f : Nat → Int32 → XH → XR) : List Value → List Value → XH → XR := fun vs st h => match vs, st with
  | [.ref a0, .int x1], [] => f a0 x1 h
  | _, _ => none
set_option maxRecDepth 100000 in
theorem eM_saysNumber_18_b (k18 : Nat → Int32 → Int32 → XH → XR) (a0 : Nat) (x1 : Int32) (x2 : Int32) (h : XH) : qM_saysNumber_18_b k18 a0 x1 x2 h = xrun BM_saysNumber (xfind [(18, ([0, 1, 2], wM_saysNumber_18 (k18)))]) 32 18 (List.zip [0, 1, 2] [.ref a0, .int x1, .int x2]) [] h := rfl
theorem tM_saysNumber_18_b {k18 : Nat → Int32 → Int32 → XH → XR} (hk18 : XTo cX9_saysNumber 3 RX9 0 1 21 18 [0, 1, 2] (wM_saysNumber_18 k18)) : XTo cX9_saysNumber 3 RX9 0 1 21 18 [0, 1, 2] (wM_saysNumber_18 (qM_saysNumber_18_b k18)) := by
  refine XTo.run (B := BM_saysNumber) (cut := xfind [(18, ([0, 1, 2], wM_saysNumber_18 (k18)))]) kM_saysNumber (xcuts_ok (List.forall_mem_cons.mpr ⟨hk18, fun _ h => absurd h List.not_mem_nil⟩)) 32 (fun vs st h r hr => ?_)
  unfold wM_saysNumber_18 at hr
  split at hr
  · exact (eM_saysNumber_18_b k18 _ _ _ _).symm.trans hr
  · cases hr
theorem tM_saysNumber_18 : ∀ n : Nat, XTo cX9_saysNumber 3 RX9 0 1 21 18 [0, 1, 2] (wM_saysNumber_18 (qM_saysNumber_18 n)) := by
  intro n
  induction n with
  | zero =>
    refine XTo.none fun vs st h => ?_
    unfold wM_saysNumber_18
    split <;> rfl
  | succ n ih => exact tM_saysNumber_18_b  ih
set_option maxRecDepth 100000 in
theorem eM_saysNumber_2_b (k2 : Nat → Int32 → Int32 → XH → XR) (a0 : Nat) (x1 : Int32) (x2 : Int32) (h : XH) : qM_saysNumber_2_b k2 a0 x1 x2 h = xrun BM_saysNumber (xfind [(2, ([0, 1, 2], wM_saysNumber_2 (k2))), (18, ([0, 1, 2], wM_saysNumber_18 (qM_saysNumber_18 LF)))]) 32 2 (List.zip [0, 1, 2] [.ref a0, .int x1, .int x2]) [] h := rfl
theorem tM_saysNumber_2_b {k2 : Nat → Int32 → Int32 → XH → XR} (hk2 : XTo cX9_saysNumber 3 RX9 0 1 21 2 [0, 1, 2] (wM_saysNumber_2 k2)) : XTo cX9_saysNumber 3 RX9 0 1 21 2 [0, 1, 2] (wM_saysNumber_2 (qM_saysNumber_2_b k2)) := by
  refine XTo.run (B := BM_saysNumber) (cut := xfind [(2, ([0, 1, 2], wM_saysNumber_2 (k2))), (18, ([0, 1, 2], wM_saysNumber_18 (qM_saysNumber_18 LF)))]) kM_saysNumber (xcuts_ok (List.forall_mem_cons.mpr ⟨hk2, List.forall_mem_cons.mpr ⟨tM_saysNumber_18 LF, fun _ h => absurd h List.not_mem_nil⟩⟩)) 32 (fun vs st h r hr => ?_)
  unfold wM_saysNumber_2 at hr
  split at hr
  · exact (eM_saysNumber_2_b k2 _ _ _ _).symm.trans hr
  · cases hr
theorem tM_saysNumber_2 : ∀ n : Nat, XTo cX9_saysNumber 3 RX9 0 1 21 2 [0, 1, 2] (wM_saysNumber_2 (qM_saysNumber_2 n)) := by
  intro n
  induction n with
  | zero =>
    refine XTo.none fun vs st h => ?_
    unfold wM_saysNumber_2
    split <;> rfl
  | succ n ih => exact tM_saysNumber_2_b  ih
set_option maxRecDepth 100000 in
theorem eM_saysNumber (a0 : Nat) (x1 : Int32) (h : XH) : qM_saysNumber a0 x1 h = xrun BM_saysNumber (xfind [(2, ([0, 1, 2], wM_saysNumber_2 (qM_saysNumber_2 LF)))]) 32 0 (List.zip [0, 1] [.ref a0, .int x1]) [] h := rfl
theorem tM_saysNumber : XTo cX9_saysNumber 3 RX9 0 1 21 0 [0, 1] (wM_saysNumber (qM_saysNumber)) := by
  refine XTo.run (B := BM_saysNumber) (cut := xfind [(2, ([0, 1, 2], wM_saysNumber_2 (qM_saysNumber_2 LF)))]) kM_saysNumber (xcuts_ok (List.forall_mem_cons.mpr ⟨tM_saysNumber_2 LF, fun _ h => absurd h List.not_mem_nil⟩)) 32 (fun vs st h r hr => ?_)
  unfold wM_saysNumber at hr
  split at hr
  · exact (eM_saysNumber _ _ _).symm.trans hr
  · cases hr
def FM_saysNumber : List Value → XH → XR := fun vs h => match vs with
  | [.ref a0, .int x1] => qM_saysNumber a0 x1 h
  | _ => none
theorem SM_saysNumber : XS yX9_saysNumber cX9_saysNumber 3 none (xrm 1 21) FM_saysNumber := by
  refine XS.of (own := RX9) (by decide) rfl (rk := 0) rfl (tM_saysNumber) (fun vs h r hr => ?_)
  unfold FM_saysNumber at hr
  split at hr
  · exact ⟨rfl, Nat.le_of_ble_eq_true rfl, hr⟩
  · cases hr
-- LineDiagramModel.saysWord(J)V
def rM_saysWord : List (Nat × XRow) := [(0, (.bipush 35, 2, 0, .int (35 : Int32), [])),
  (2, (.istore_n 3, 3, 3, .null, [])),
  (3, (.iload_n 3, 4, 3, .null, [])),
  (4, (.ifCond .lt 33, 7, 37, .null, [])),
  (7, (.lload_n 1, 8, 1, .null, [])),
  (8, (.iload_n 3, 9, 3, .null, [])),
  (9, (.lshr, 10, 0, .null, [])),
  (10, (.ldc2_w 482, 13, 482, .long (31 : Int64), [])),
  (13, (.land, 14, 0, .null, [])),
  (14, (.l2i, 15, 0, .null, [])),
  (15, (.istore 4, 17, 4, .null, [])),
  (17, (.iload 4, 19, 4, .null, [])),
  (19, (.ifCond .le 12, 22, 31, .null, [])),
  (22, (.aload_n 0, 23, 0, .null, [])),
  (23, (.bipush 96, 25, 0, .int (96 : Int32), [])),
  (25, (.iload 4, 27, 4, .null, [])),
  (27, (.iadd, 28, 0, .null, [])),
  (28, (.invokevirtual 484, 31, 484, .null, [])),
  (31, (.iinc 3 (-5), 34, 3, .int (-5 : Int32), [])),
  (34, (.goto (-31), 37, 3, .null, [])),
  (37, (.return_, 38, 0, .null, []))]
def mM_saysWord : List (Nat × XM) := [(484, (2, 0, some 9, FM_says))]
abbrev BM_saysWord : XB := (rM_saysWord, XFT_M, mM_saysWord, 0, XST_M)
set_option maxRecDepth 100000 in
theorem kM_saysWord : XOK BM_saysWord cX9_saysWord 5 RX9 1 21 := xok_of (cps := []) (K := XKT_M) (by decide +kernel) XKT_M_ok (fun _ h => absurd h List.not_mem_nil) XFT_M_ok (List.forall_mem_cons.mpr ⟨⟨_, _, _, _, _, _, _, SM_says, rfl, rfl, Nat.le_of_ble_eq_true rfl, Nat.le_of_ble_eq_true rfl, cdM_says, lkM_484, imM_says, slM_says, inM_says, pmM_says⟩, fun _ h => absurd h List.not_mem_nil⟩) XST_M_ok
def wM_saysWord_3 (f : Nat → Int64 → Int32 → XH → XR) : List Value → List Value → XH → XR := fun vs st h => match vs, st with
  | [.ref a0, .long l1, .int x3], [] => f a0 l1 x3 h
  | _, _ => none
def wM_saysWord (f : Nat → Int64 → XH → XR) : List Value → List Value → XH → XR := fun vs st h => match vs, st with
  | [.ref a0, .long l1], [] => f a0 l1 h
  | _, _ => none
set_option maxRecDepth 100000 in
theorem eM_saysWord_3_b (k3 : Nat → Int64 → Int32 → XH → XR) (a0 : Nat) (l1 : Int64) (x3 : Int32) (h : XH) : qM_saysWord_3_b k3 a0 l1 x3 h = xrun BM_saysWord (xfind [(3, ([0, 1, 3], wM_saysWord_3 (k3)))]) 24 3 (List.zip [0, 1, 3] [.ref a0, .long l1, .int x3]) [] h := rfl
theorem tM_saysWord_3_b {k3 : Nat → Int64 → Int32 → XH → XR} (hk3 : XTo cX9_saysWord 5 RX9 0 1 21 3 [0, 1, 3] (wM_saysWord_3 k3)) : XTo cX9_saysWord 5 RX9 0 1 21 3 [0, 1, 3] (wM_saysWord_3 (qM_saysWord_3_b k3)) := by
  refine XTo.run (B := BM_saysWord) (cut := xfind [(3, ([0, 1, 3], wM_saysWord_3 (k3)))]) kM_saysWord (xcuts_ok (List.forall_mem_cons.mpr ⟨hk3, fun _ h => absurd h List.not_mem_nil⟩)) 24 (fun vs st h r hr => ?_)
  unfold wM_saysWord_3 at hr
  split at hr
  · exact (eM_saysWord_3_b k3 _ _ _ _).symm.trans hr
  · cases hr
theorem tM_saysWord_3 : ∀ n : Nat, XTo cX9_saysWord 5 RX9 0 1 21 3 [0, 1, 3] (wM_saysWord_3 (qM_saysWord_3 n)) := by
  intro n
  induction n with
  | zero =>
    refine XTo.none fun vs st h => ?_
    unfold wM_saysWord_3
    split <;> rfl
  | succ n ih => exact tM_saysWord_3_b  ih
set_option maxRecDepth 100000 in
theorem eM_saysWord (a0 : Nat) (l1 : Int64) (h : XH) : qM_saysWord a0 l1 h = xrun BM_saysWord (xfind [(3, ([0, 1, 3], wM_saysWord_3 (qM_saysWord_3 LF)))]) 24 0 (List.zip [0, 1] [.ref a0, .long l1]) [] h := rfl
theorem tM_saysWord : XTo cX9_saysWord 5 RX9 0 1 21 0 [0, 1] (wM_saysWord (qM_saysWord)) := by
  refine XTo.run (B := BM_saysWord) (cut := xfind [(3, ([0, 1, 3], wM_saysWord_3 (qM_saysWord_3 LF)))]) kM_saysWord (xcuts_ok (List.forall_mem_cons.mpr ⟨tM_saysWord_3 LF, fun _ h => absurd h List.not_mem_nil⟩)) 24 (fun vs st h r hr => ?_)
  unfold wM_saysWord at hr
  split at hr
  · exact (eM_saysWord _ _ _).symm.trans hr
  · cases hr
def FM_saysWord : List Value → XH → XR := fun vs h => match vs with
  | [.ref a0, .long l1] => qM_saysWord a0 l1 h
  | _ => none
theorem SM_saysWord : XS yX9_saysWord cX9_saysWord 5 none (xrm 1 21) FM_saysWord := by
  refine XS.of (own := RX9) (by decide) rfl (rk := 0) rfl (tM_saysWord) (fun vs h r hr => ?_)
  unfold FM_saysWord at hr
  split at hr
  · exact ⟨rfl, Nat.le_of_ble_eq_true rfl, hr⟩
  · cases hr
-- LineDiagramModel.saysPair(JI)V
def rM_saysPair : List (Nat × XRow) := [(0, (.aload_n 0, 1, 0, .null, [])),
  (1, (.lload_n 1, 2, 1, .null, [])),
  (2, (.invokevirtual 499, 5, 499, .null, [])),
  (5, (.aload_n 0, 6, 0, .null, [])),
  (6, (.bipush 32, 8, 0, .int (32 : Int32), [])),
  (8, (.invokevirtual 484, 11, 484, .null, [])),
  (11, (.aload_n 0, 12, 0, .null, [])),
  (12, (.iload_n 3, 13, 3, .null, [])),
  (13, (.invokevirtual 503, 16, 503, .null, [])),
  (16, (.return_, 17, 0, .null, []))]
def mM_saysPair : List (Nat × XM) := [(484, (2, 0, some 9, FM_says)), (499, (2, 0, some 9, FM_saysWord)), (503, (2, 0, some 9, FM_saysNumber))]
abbrev BM_saysPair : XB := (rM_saysPair, XFT_M, mM_saysPair, 0, XST_M)
set_option maxRecDepth 100000 in
theorem kM_saysPair : XOK BM_saysPair cX9_saysPair 4 RX9 2 45 := xok_of (cps := []) (K := XKT_M) (by decide +kernel) XKT_M_ok (fun _ h => absurd h List.not_mem_nil) XFT_M_ok (List.forall_mem_cons.mpr ⟨⟨_, _, _, _, _, _, _, SM_says, rfl, rfl, Nat.le_of_ble_eq_true rfl, Nat.le_of_ble_eq_true rfl, cdM_says, lkM_484, imM_says, slM_says, inM_says, pmM_says⟩, List.forall_mem_cons.mpr ⟨⟨_, _, _, _, _, _, _, SM_saysWord, rfl, rfl, Nat.le_of_ble_eq_true rfl, Nat.le_of_ble_eq_true rfl, cdM_saysWord, lkM_499, imM_saysWord, slM_saysWord, inM_saysWord, pmM_saysWord⟩, List.forall_mem_cons.mpr ⟨⟨_, _, _, _, _, _, _, SM_saysNumber, rfl, rfl, Nat.le_of_ble_eq_true rfl, Nat.le_of_ble_eq_true rfl, cdM_saysNumber, lkM_503, imM_saysNumber, slM_saysNumber, inM_saysNumber, pmM_saysNumber⟩, fun _ h => absurd h List.not_mem_nil⟩⟩⟩) XST_M_ok
def wM_saysPair (f : Nat → Int64 → Int32 → XH → XR) : List Value → List Value → XH → XR := fun vs st h => match vs, st with
  | [.ref a0, .long l1, .int x3], [] => f a0 l1 x3 h
  | _, _ => none
set_option maxRecDepth 100000 in
theorem eM_saysPair (a0 : Nat) (l1 : Int64) (x3 : Int32) (h : XH) : qM_saysPair a0 l1 x3 h = xrun BM_saysPair (xfind []) 13 0 (List.zip [0, 1, 3] [.ref a0, .long l1, .int x3]) [] h := rfl
theorem tM_saysPair : XTo cX9_saysPair 4 RX9 0 2 45 0 [0, 1, 3] (wM_saysPair (qM_saysPair)) := by
  refine XTo.run (B := BM_saysPair) (cut := xfind []) kM_saysPair (xcuts_ok (fun _ h => absurd h List.not_mem_nil)) 13 (fun vs st h r hr => ?_)
  unfold wM_saysPair at hr
  split at hr
  · exact (eM_saysPair _ _ _ _).symm.trans hr
  · cases hr
def FM_saysPair : List Value → XH → XR := fun vs h => match vs with
  | [.ref a0, .long l1, .int x3] => qM_saysPair a0 l1 x3 h
  | _ => none
theorem SM_saysPair : XS yX9_saysPair cX9_saysPair 4 none (xrm 2 45) FM_saysPair := by
  refine XS.of (own := RX9) (by decide) rfl (rk := 0) rfl (tM_saysPair) (fun vs h r hr => ?_)
  unfold FM_saysPair at hr
  split at hr
  · exact ⟨rfl, Nat.le_of_ble_eq_true rfl, hr⟩
  · cases hr
-- LineDiagramModel.saysLine(I)V
def rM_saysLine : List (Nat × XRow) := [(0, (.aload_n 0, 1, 0, .null, [])),
  (1, (.ldc2_w 218, 4, 218, .long (402885 : Int64), [])),
  (4, (.invokevirtual 499, 7, 499, .null, [])),
  (7, (.aload_n 0, 8, 0, .null, [])),
  (8, (.bipush 32, 10, 0, .int (32 : Int32), [])),
  (10, (.invokevirtual 484, 13, 484, .null, [])),
  (13, (.aload_n 0, 14, 0, .null, [])),
  (14, (.aload_n 0, 15, 0, .null, [])),
  (15, (.getfield 17, 18, 17, .null, [])),
  (18, (.iload_n 1, 19, 1, .null, [])),
  (19, (.iaload, 20, 0, .null, [])),
  (20, (.i2l, 21, 0, .null, [])),
  (21, (.invokevirtual 499, 24, 499, .null, [])),
  (24, (.aload_n 0, 25, 0, .null, [])),
  (25, (.bipush 32, 27, 0, .int (32 : Int32), [])),
  (27, (.invokevirtual 484, 30, 484, .null, [])),
  (30, (.aload_n 0, 31, 0, .null, [])),
  (31, (.ldc2_w 220, 34, 220, .long (632645 : Int64), [])),
  (34, (.aload_n 0, 35, 0, .null, [])),
  (35, (.iload_n 1, 36, 1, .null, [])),
  (36, (.iconst 0, 37, 0, .int (0 : Int32), [])),
  (37, (.invokevirtual 88, 40, 88, .null, [])),
  (40, (.invokevirtual 506, 43, 506, .null, [])),
  (43, (.aload_n 0, 44, 0, .null, [])),
  (44, (.bipush 32, 46, 0, .int (32 : Int32), [])),
  (46, (.invokevirtual 484, 49, 484, .null, [])),
  (49, (.aload_n 0, 50, 0, .null, [])),
  (50, (.ldc2_w 222, 53, 222, .long (20594195 : Int64), [])),
  (53, (.aload_n 0, 54, 0, .null, [])),
  (54, (.iload_n 1, 55, 1, .null, [])),
  (55, (.iconst 1, 56, 0, .int (1 : Int32), [])),
  (56, (.invokevirtual 88, 59, 88, .null, [])),
  (59, (.invokevirtual 506, 62, 506, .null, [])),
  (62, (.iconst 0, 63, 0, .int (0 : Int32), [])),
  (63, (.istore_n 2, 64, 2, .null, [])),
  (64, (.iload_n 2, 65, 2, .null, [])),
  (65, (.aload_n 0, 66, 0, .null, [])),
  (66, (.iload_n 1, 67, 1, .null, [])),
  (67, (.iconst 2, 68, 0, .int (2 : Int32), [])),
  (68, (.invokevirtual 88, 71, 88, .null, [])),
  (71, (.if_icmp .ge 44, 74, 115, .null, [])),
  (74, (.aload_n 0, 75, 0, .null, [])),
  (75, (.bipush 32, 77, 0, .int (32 : Int32), [])),
  (77, (.invokevirtual 484, 80, 484, .null, [])),
  (80, (.aload_n 0, 81, 0, .null, [])),
  (81, (.ldc2_w 224, 84, 224, .long (52 : Int64), [])),
  (84, (.aload_n 0, 85, 0, .null, [])),
  (85, (.iload_n 1, 86, 1, .null, [])),
  (86, (.iload_n 2, 87, 2, .null, [])),
  (87, (.invokevirtual 120, 90, 120, .null, [])),
  (90, (.invokevirtual 506, 93, 506, .null, [])),
  (93, (.aload_n 0, 94, 0, .null, [])),
  (94, (.bipush 32, 96, 0, .int (32 : Int32), [])),
  (96, (.invokevirtual 484, 99, 484, .null, [])),
  (99, (.aload_n 0, 100, 0, .null, [])),
  (100, (.aload_n 0, 101, 0, .null, [])),
  (101, (.iload_n 1, 102, 1, .null, [])),
  (102, (.iload_n 2, 103, 2, .null, [])),
  (103, (.invokevirtual 123, 106, 123, .null, [])),
  (106, (.invokevirtual 503, 109, 503, .null, [])),
  (109, (.iinc 2 1, 112, 2, .int (1 : Int32), [])),
  (112, (.goto (-48), 115, 64, .null, [])),
  (115, (.aload_n 0, 116, 0, .null, [])),
  (116, (.bipush 59, 118, 0, .int (59 : Int32), [])),
  (118, (.invokevirtual 484, 121, 484, .null, [])),
  (121, (.return_, 122, 0, .null, []))]
def mM_saysLine : List (Nat × XM) := [(88, (3, 1, some 9, FM_of)), (120, (3, 1, some 9, FM_px)), (123, (3, 1, some 9, FM_py)), (484, (2, 0, some 9, FM_says)), (499, (2, 0, some 9, FM_saysWord)), (503, (2, 0, some 9, FM_saysNumber)), (506, (3, 0, some 9, FM_saysPair))]
abbrev BM_saysLine : XB := (rM_saysLine, XFT_M, mM_saysLine, 0, XST_M)
set_option maxRecDepth 100000 in
theorem kM_saysLine : XOK BM_saysLine cX9_saysLine 3 RX9 3 68 := xok_of (cps := []) (K := XKT_M) (by decide +kernel) XKT_M_ok (fun _ h => absurd h List.not_mem_nil) XFT_M_ok (List.forall_mem_cons.mpr ⟨⟨_, _, _, _, _, _, _, SM_of, rfl, rfl, Nat.le_of_ble_eq_true rfl, Nat.le_of_ble_eq_true rfl, cdM_of, lkM_88, imM_of, slM_of, inM_of, pmM_of⟩, List.forall_mem_cons.mpr ⟨⟨_, _, _, _, _, _, _, SM_px, rfl, rfl, Nat.le_of_ble_eq_true rfl, Nat.le_of_ble_eq_true rfl, cdM_px, lkM_120, imM_px, slM_px, inM_px, pmM_px⟩, List.forall_mem_cons.mpr ⟨⟨_, _, _, _, _, _, _, SM_py, rfl, rfl, Nat.le_of_ble_eq_true rfl, Nat.le_of_ble_eq_true rfl, cdM_py, lkM_123, imM_py, slM_py, inM_py, pmM_py⟩, List.forall_mem_cons.mpr ⟨⟨_, _, _, _, _, _, _, SM_says, rfl, rfl, Nat.le_of_ble_eq_true rfl, Nat.le_of_ble_eq_true rfl, cdM_says, lkM_484, imM_says, slM_says, inM_says, pmM_says⟩, List.forall_mem_cons.mpr ⟨⟨_, _, _, _, _, _, _, SM_saysWord, rfl, rfl, Nat.le_of_ble_eq_true rfl, Nat.le_of_ble_eq_true rfl, cdM_saysWord, lkM_499, imM_saysWord, slM_saysWord, inM_saysWord, pmM_saysWord⟩, List.forall_mem_cons.mpr ⟨⟨_, _, _, _, _, _, _, SM_saysNumber, rfl, rfl, Nat.le_of_ble_eq_true rfl, Nat.le_of_ble_eq_true rfl, cdM_saysNumber, lkM_503, imM_saysNumber, slM_saysNumber, inM_saysNumber, pmM_saysNumber⟩, List.forall_mem_cons.mpr ⟨⟨_, _, _, _, _, _, _, SM_saysPair, rfl, rfl, Nat.le_of_ble_eq_true rfl, Nat.le_of_ble_eq_true rfl, cdM_saysPair, lkM_506, imM_saysPair, slM_saysPair, inM_saysPair, pmM_saysPair⟩, fun _ h => absurd h List.not_mem_nil⟩⟩⟩⟩⟩⟩⟩) XST_M_ok
def wM_saysLine_115 (f : Nat → XH → XR) : List Value → List Value → XH → XR := fun vs st h => match vs, st with
  | [.ref a0], [] => f a0 h
  | _, _ => none
def wM_saysLine_64 (f : Nat → Int32 → Int32 → XH → XR) : List Value → List Value → XH → XR := fun vs st h => match vs, st with
  | [.ref a0, .int x1, .int x2], [] => f a0 x1 x2 h
  | _, _ => none
def wM_saysLine (f : Nat → Int32 → XH → XR) : List Value → List Value → XH → XR := fun vs st h => match vs, st with
  | [.ref a0, .int x1], [] => f a0 x1 h
  | _, _ => none
set_option maxRecDepth 100000 in
theorem eM_saysLine_115 (a0 : Nat) (h : XH) : qM_saysLine_115 a0 h = xrun BM_saysLine (xfind []) 69 115 (List.zip [0] [.ref a0]) [] h := rfl
theorem tM_saysLine_115 : XTo cX9_saysLine 3 RX9 0 3 68 115 [0] (wM_saysLine_115 (qM_saysLine_115)) := by
  refine XTo.run (B := BM_saysLine) (cut := xfind []) kM_saysLine (xcuts_ok (fun _ h => absurd h List.not_mem_nil)) 69 (fun vs st h r hr => ?_)
  unfold wM_saysLine_115 at hr
  split at hr
  · exact (eM_saysLine_115 _ _).symm.trans hr
  · cases hr
set_option maxRecDepth 100000 in
theorem eM_saysLine_64_b (k64 : Nat → Int32 → Int32 → XH → XR) (a0 : Nat) (x1 : Int32) (x2 : Int32) (h : XH) : qM_saysLine_64_b k64 a0 x1 x2 h = xrun BM_saysLine (xfind [(64, ([0, 1, 2], wM_saysLine_64 (k64))), (115, ([0], wM_saysLine_115 (qM_saysLine_115)))]) 69 64 (List.zip [0, 1, 2] [.ref a0, .int x1, .int x2]) [] h := rfl
theorem tM_saysLine_64_b {k64 : Nat → Int32 → Int32 → XH → XR} (hk64 : XTo cX9_saysLine 3 RX9 0 3 68 64 [0, 1, 2] (wM_saysLine_64 k64)) : XTo cX9_saysLine 3 RX9 0 3 68 64 [0, 1, 2] (wM_saysLine_64 (qM_saysLine_64_b k64)) := by
  refine XTo.run (B := BM_saysLine) (cut := xfind [(64, ([0, 1, 2], wM_saysLine_64 (k64))), (115, ([0], wM_saysLine_115 (qM_saysLine_115)))]) kM_saysLine (xcuts_ok (List.forall_mem_cons.mpr ⟨hk64, List.forall_mem_cons.mpr ⟨tM_saysLine_115, fun _ h => absurd h List.not_mem_nil⟩⟩)) 69 (fun vs st h r hr => ?_)
  unfold wM_saysLine_64 at hr
  split at hr
  · exact (eM_saysLine_64_b k64 _ _ _ _).symm.trans hr
  · cases hr
theorem tM_saysLine_64 : ∀ n : Nat, XTo cX9_saysLine 3 RX9 0 3 68 64 [0, 1, 2] (wM_saysLine_64 (qM_saysLine_64 n)) := by
  intro n
  induction n with
  | zero =>
    refine XTo.none fun vs st h => ?_
    unfold wM_saysLine_64
    split <;> rfl
  | succ n ih => exact tM_saysLine_64_b  ih
set_option maxRecDepth 100000 in
theorem eM_saysLine (a0 : Nat) (x1 : Int32) (h : XH) : qM_saysLine a0 x1 h = xrun BM_saysLine (xfind [(64, ([0, 1, 2], wM_saysLine_64 (qM_saysLine_64 LF)))]) 69 0 (List.zip [0, 1] [.ref a0, .int x1]) [] h := rfl
theorem tM_saysLine : XTo cX9_saysLine 3 RX9 0 3 68 0 [0, 1] (wM_saysLine (qM_saysLine)) := by
  refine XTo.run (B := BM_saysLine) (cut := xfind [(64, ([0, 1, 2], wM_saysLine_64 (qM_saysLine_64 LF)))]) kM_saysLine (xcuts_ok (List.forall_mem_cons.mpr ⟨tM_saysLine_64 LF, fun _ h => absurd h List.not_mem_nil⟩)) 69 (fun vs st h r hr => ?_)
  unfold wM_saysLine at hr
  split at hr
  · exact (eM_saysLine _ _ _).symm.trans hr
  · cases hr
def FM_saysLine : List Value → XH → XR := fun vs h => match vs with
  | [.ref a0, .int x1] => qM_saysLine a0 x1 h
  | _ => none
theorem SM_saysLine : XS yX9_saysLine cX9_saysLine 3 none (xrm 3 68) FM_saysLine := by
  refine XS.of (own := RX9) (by decide) rfl (rk := 0) rfl (tM_saysLine) (fun vs h r hr => ?_)
  unfold FM_saysLine at hr
  split at hr
  · exact ⟨rfl, Nat.le_of_ble_eq_true rfl, hr⟩
  · cases hr
-- LineDiagramModel.saysSetup(I)V
def rM_saysSetup : List (Nat × XRow) := [(0, (.aload_n 0, 1, 0, .null, [])),
  (1, (.iload_n 1, 2, 1, .null, [])),
  (2, (.invokevirtual 490, 5, 490, .null, [])),
  (5, (.aload_n 0, 6, 0, .null, [])),
  (6, (.ldc2_w 214, 9, 214, .long (2590276 : Int64), [])),
  (9, (.aload_n 0, 10, 0, .null, [])),
  (10, (.getfield 73, 13, 73, .null, [])),
  (13, (.invokevirtual 506, 16, 506, .null, [])),
  (16, (.aload_n 0, 17, 0, .null, [])),
  (17, (.bipush 32, 19, 0, .int (32 : Int32), [])),
  (19, (.invokevirtual 484, 22, 484, .null, [])),
  (22, (.aload_n 0, 23, 0, .null, [])),
  (23, (.aload_n 0, 24, 0, .null, [])),
  (24, (.getfield 76, 27, 76, .null, [])),
  (27, (.invokevirtual 503, 30, 503, .null, [])),
  (30, (.aload_n 0, 31, 0, .null, [])),
  (31, (.bipush 32, 33, 0, .int (32 : Int32), [])),
  (33, (.invokevirtual 484, 36, 484, .null, [])),
  (36, (.aload_n 0, 37, 0, .null, [])),
  (37, (.ldc2_w 216, 40, 216, .long (677454 : Int64), [])),
  (40, (.aload_n 0, 41, 0, .null, [])),
  (41, (.getfield 79, 44, 79, .null, [])),
  (44, (.invokevirtual 506, 47, 506, .null, [])),
  (47, (.aload_n 0, 48, 0, .null, [])),
  (48, (.bipush 59, 50, 0, .int (59 : Int32), [])),
  (50, (.invokevirtual 484, 53, 484, .null, [])),
  (53, (.iconst 0, 54, 0, .int (0 : Int32), [])),
  (54, (.istore_n 2, 55, 2, .null, [])),
  (55, (.iload_n 2, 56, 2, .null, [])),
  (56, (.aload_n 0, 57, 0, .null, [])),
  (57, (.getfield 100, 60, 100, .null, [])),
  (60, (.if_icmp .ge 14, 63, 74, .null, [])),
  (63, (.aload_n 0, 64, 0, .null, [])),
  (64, (.iload_n 2, 65, 2, .null, [])),
  (65, (.invokevirtual 510, 68, 510, .null, [])),
  (68, (.iinc 2 1, 71, 2, .int (1 : Int32), [])),
  (71, (.goto (-16), 74, 55, .null, [])),
  (74, (.return_, 75, 0, .null, []))]
def mM_saysSetup : List (Nat × XM) := [(484, (2, 0, some 9, FM_says)), (490, (2, 0, some 9, FM_startsText)), (503, (2, 0, some 9, FM_saysNumber)), (506, (3, 0, some 9, FM_saysPair)), (510, (2, 0, some 9, FM_saysLine))]
abbrev BM_saysSetup : XB := (rM_saysSetup, XFT_M, mM_saysSetup, 0, XST_M)
set_option maxRecDepth 100000 in
theorem kM_saysSetup : XOK BM_saysSetup cX9_saysSetup 3 RX9 4 90 := xok_of (cps := []) (K := XKT_M) (by decide +kernel) XKT_M_ok (fun _ h => absurd h List.not_mem_nil) XFT_M_ok (List.forall_mem_cons.mpr ⟨⟨_, _, _, _, _, _, _, SM_says, rfl, rfl, Nat.le_of_ble_eq_true rfl, Nat.le_of_ble_eq_true rfl, cdM_says, lkM_484, imM_says, slM_says, inM_says, pmM_says⟩, List.forall_mem_cons.mpr ⟨⟨_, _, _, _, _, _, _, SM_startsText, rfl, rfl, Nat.le_of_ble_eq_true rfl, Nat.le_of_ble_eq_true rfl, cdM_startsText, lkM_490, imM_startsText, slM_startsText, inM_startsText, pmM_startsText⟩, List.forall_mem_cons.mpr ⟨⟨_, _, _, _, _, _, _, SM_saysNumber, rfl, rfl, Nat.le_of_ble_eq_true rfl, Nat.le_of_ble_eq_true rfl, cdM_saysNumber, lkM_503, imM_saysNumber, slM_saysNumber, inM_saysNumber, pmM_saysNumber⟩, List.forall_mem_cons.mpr ⟨⟨_, _, _, _, _, _, _, SM_saysPair, rfl, rfl, Nat.le_of_ble_eq_true rfl, Nat.le_of_ble_eq_true rfl, cdM_saysPair, lkM_506, imM_saysPair, slM_saysPair, inM_saysPair, pmM_saysPair⟩, List.forall_mem_cons.mpr ⟨⟨_, _, _, _, _, _, _, SM_saysLine, rfl, rfl, Nat.le_of_ble_eq_true rfl, Nat.le_of_ble_eq_true rfl, cdM_saysLine, lkM_510, imM_saysLine, slM_saysLine, inM_saysLine, pmM_saysLine⟩, fun _ h => absurd h List.not_mem_nil⟩⟩⟩⟩⟩) XST_M_ok
def wM_saysSetup_55 (f : Nat → Int32 → XH → XR) : List Value → List Value → XH → XR := fun vs st h => match vs, st with
  | [.ref a0, .int x2], [] => f a0 x2 h
  | _, _ => none
def wM_saysSetup (f : Nat → Int32 → XH → XR) : List Value → List Value → XH → XR := fun vs st h => match vs, st with
  | [.ref a0, .int x1], [] => f a0 x1 h
  | _, _ => none
set_option maxRecDepth 100000 in
theorem eM_saysSetup_55_b (k55 : Nat → Int32 → XH → XR) (a0 : Nat) (x2 : Int32) (h : XH) : qM_saysSetup_55_b k55 a0 x2 h = xrun BM_saysSetup (xfind [(55, ([0, 2], wM_saysSetup_55 (k55)))]) 41 55 (List.zip [0, 2] [.ref a0, .int x2]) [] h := rfl
theorem tM_saysSetup_55_b {k55 : Nat → Int32 → XH → XR} (hk55 : XTo cX9_saysSetup 3 RX9 0 4 90 55 [0, 2] (wM_saysSetup_55 k55)) : XTo cX9_saysSetup 3 RX9 0 4 90 55 [0, 2] (wM_saysSetup_55 (qM_saysSetup_55_b k55)) := by
  refine XTo.run (B := BM_saysSetup) (cut := xfind [(55, ([0, 2], wM_saysSetup_55 (k55)))]) kM_saysSetup (xcuts_ok (List.forall_mem_cons.mpr ⟨hk55, fun _ h => absurd h List.not_mem_nil⟩)) 41 (fun vs st h r hr => ?_)
  unfold wM_saysSetup_55 at hr
  split at hr
  · exact (eM_saysSetup_55_b k55 _ _ _).symm.trans hr
  · cases hr
theorem tM_saysSetup_55 : ∀ n : Nat, XTo cX9_saysSetup 3 RX9 0 4 90 55 [0, 2] (wM_saysSetup_55 (qM_saysSetup_55 n)) := by
  intro n
  induction n with
  | zero =>
    refine XTo.none fun vs st h => ?_
    unfold wM_saysSetup_55
    split <;> rfl
  | succ n ih => exact tM_saysSetup_55_b  ih
set_option maxRecDepth 100000 in
theorem eM_saysSetup (a0 : Nat) (x1 : Int32) (h : XH) : qM_saysSetup a0 x1 h = xrun BM_saysSetup (xfind [(55, ([0, 2], wM_saysSetup_55 (qM_saysSetup_55 LF)))]) 41 0 (List.zip [0, 1] [.ref a0, .int x1]) [] h := rfl
theorem tM_saysSetup : XTo cX9_saysSetup 3 RX9 0 4 90 0 [0, 1] (wM_saysSetup (qM_saysSetup)) := by
  refine XTo.run (B := BM_saysSetup) (cut := xfind [(55, ([0, 2], wM_saysSetup_55 (qM_saysSetup_55 LF)))]) kM_saysSetup (xcuts_ok (List.forall_mem_cons.mpr ⟨tM_saysSetup_55 LF, fun _ h => absurd h List.not_mem_nil⟩)) 41 (fun vs st h r hr => ?_)
  unfold wM_saysSetup at hr
  split at hr
  · exact (eM_saysSetup _ _ _).symm.trans hr
  · cases hr
def FM_saysSetup : List Value → XH → XR := fun vs h => match vs with
  | [.ref a0, .int x1] => qM_saysSetup a0 x1 h
  | _ => none
theorem SM_saysSetup : XS yX9_saysSetup cX9_saysSetup 3 none (xrm 4 90) FM_saysSetup := by
  refine XS.of (own := RX9) (by decide) rfl (rk := 0) rfl (tM_saysSetup) (fun vs h r hr => ?_)
  unfold FM_saysSetup at hr
  split at hr
  · exact ⟨rfl, Nat.le_of_ble_eq_true rfl, hr⟩
  · cases hr
