-- LineDiagram$Board.byteOf(I)I
def rB_byteOf : List (Nat × XRow) := [(0, (.aload_n 0, 1, 0, .null, [])),
  (1, (.getfield 18, 4, 18, .null, [])),
  (4, (.iload_n 1, 5, 1, .null, [])),
  (5, (.iaload, 6, 0, .null, [])),
  (6, (.ifCond .le 6, 9, 12, .null, [])),
  (9, (.bipush 111, 11, 0, .int (111 : Int32), [])),
  (11, (.ireturn, 12, 0, .null, [])),
  (12, (.aload_n 0, 13, 0, .null, [])),
  (13, (.iload_n 1, 14, 1, .null, [])),
  (14, (.sipush 255, 17, 0, .int (255 : Int32), [])),
  (17, (.invokevirtual 134, 20, 134, .null, [])),
  (20, (.ifCond .eq 6, 23, 26, .null, [])),
  (23, (.bipush 43, 25, 0, .int (43 : Int32), [])),
  (25, (.ireturn, 26, 0, .null, [])),
  (26, (.aload_n 0, 27, 0, .null, [])),
  (27, (.getfield 9, 30, 9, .null, [])),
  (30, (.iload_n 1, 31, 1, .null, [])),
  (31, (.iaload, 32, 0, .null, [])),
  (32, (.ifCond .eq 12, 35, 44, .null, [])),
  (35, (.bipush 48, 37, 0, .int (48 : Int32), [])),
  (37, (.aload_n 0, 38, 0, .null, [])),
  (38, (.iload_n 1, 39, 1, .null, [])),
  (39, (.invokevirtual 171, 42, 171, .null, [])),
  (42, (.iadd, 43, 0, .null, [])),
  (43, (.ireturn, 44, 0, .null, [])),
  (44, (.aload_n 0, 45, 0, .null, [])),
  (45, (.getfield 27, 48, 27, .null, [])),
  (48, (.iload_n 1, 49, 1, .null, [])),
  (49, (.iaload, 50, 0, .null, [])),
  (50, (.ifCond .eq 8, 53, 58, .null, [])),
  (53, (.bipush 61, 55, 0, .int (61 : Int32), [])),
  (55, (.goto 5, 58, 60, .null, [])),
  (58, (.bipush 46, 60, 0, .int (46 : Int32), [])),
  (60, (.ireturn, 61, 0, .null, []))]
def mB_byteOf : List (Nat × XM) := [(134, (3, 1, some 0, FB_isCrossing)), (171, (2, 1, some 0, FB_firstLineOn))]
abbrev BB_byteOf : XB := (rB_byteOf, XFT_B, mB_byteOf, 1, XST_B)
set_option maxRecDepth 100000 in
theorem kB_byteOf : XOK BB_byteOf cX0_byteOf 2 RX0 2 42 := xok_of (cps := []) (K := XKT_B) (by decide +kernel) XKT_B_ok (fun _ h => absurd h List.not_mem_nil) XFT_B_ok (List.forall_mem_cons.mpr ⟨⟨_, _, _, _, _, _, _, SB_isCrossing, rfl, rfl, Nat.le_of_ble_eq_true rfl, Nat.le_of_ble_eq_true rfl, cdB_isCrossing, lkB_134, imB_isCrossing, slB_isCrossing, inB_isCrossing, pmB_isCrossing⟩, List.forall_mem_cons.mpr ⟨⟨_, _, _, _, _, _, _, SB_firstLineOn, rfl, rfl, Nat.le_of_ble_eq_true rfl, Nat.le_of_ble_eq_true rfl, cdB_firstLineOn, lkB_171, imB_firstLineOn, slB_firstLineOn, inB_firstLineOn, pmB_firstLineOn⟩, fun _ h => absurd h List.not_mem_nil⟩⟩) XST_B_ok
def wB_byteOf (f : Nat → Int32 → XH → XR) : List Value → List Value → XH → XR := fun vs st h => match vs, st with
  | [.ref a0, .int x1], [] => f a0 x1 h
  | _, _ => none
set_option maxRecDepth 100000 in
theorem eB_byteOf (a0 : Nat) (x1 : Int32) (h : XH) : qB_byteOf a0 x1 h = xrun BB_byteOf (xfind []) 37 0 (List.zip [0, 1] [.ref a0, .int x1]) [] h := rfl
theorem tB_byteOf : XTo cX0_byteOf 2 RX0 1 2 42 0 [0, 1] (wB_byteOf (qB_byteOf)) := by
  refine XTo.run (B := BB_byteOf) (cut := xfind []) kB_byteOf (xcuts_ok (fun _ h => absurd h List.not_mem_nil)) 37 (fun vs st h r hr => ?_)
  unfold wB_byteOf at hr
  split at hr
  · exact (eB_byteOf _ _ _).symm.trans hr
  · cases hr
def FB_byteOf : List Value → XH → XR := fun vs h => match vs with
  | [.ref a0, .int x1] => qB_byteOf a0 x1 h
  | _ => none
theorem SB_byteOf : XS yX0_byteOf cX0_byteOf 2 (some .int) (xrm 2 42) FB_byteOf := by
  refine XS.of (own := RX0) (by decide) rfl (rk := 1) rfl (tB_byteOf) (fun vs h r hr => ?_)
  unfold FB_byteOf at hr
  split at hr
  · exact ⟨rfl, Nat.le_of_ble_eq_true rfl, hr⟩
  · cases hr
-- LineDiagram.pictureByte(I)I
def rD_pictureByte : List (Nat × XRow) := [(0, (.iload_n 1, 1, 1, .null, [])),
  (1, (.ifCond .ge 5, 4, 6, .null, [])),
  (4, (.iconst (-1), 5, 0, .int (-1 : Int32), [])),
  (5, (.ireturn, 6, 0, .null, [])),
  (6, (.aload_n 0, 7, 0, .null, [])),
  (7, (.getfield 29, 10, 29, .null, [])),
  (10, (.getfield 209, 13, 209, .null, [])),
  (13, (.iconst 1, 14, 0, .int (1 : Int32), [])),
  (14, (.iadd, 15, 0, .null, [])),
  (15, (.istore_n 2, 16, 2, .null, [])),
  (16, (.iload_n 2, 17, 2, .null, [])),
  (17, (.iconst 1, 18, 0, .int (1 : Int32), [])),
  (18, (.if_icmp .lt 16, 21, 34, .null, [])),
  (21, (.iload_n 1, 22, 1, .null, [])),
  (22, (.iload_n 2, 23, 2, .null, [])),
  (23, (.aload_n 0, 24, 0, .null, [])),
  (24, (.getfield 29, 27, 29, .null, [])),
  (27, (.getfield 212, 30, 212, .null, [])),
  (30, (.imul, 31, 0, .null, [])),
  (31, (.if_icmp .lt 6, 34, 37, .null, [])),
  (34, (.bipush (-2), 36, 0, .int (-2 : Int32), [])),
  (36, (.ireturn, 37, 0, .null, [])),
  (37, (.iload_n 1, 38, 1, .null, [])),
  (38, (.iload_n 2, 39, 2, .null, [])),
  (39, (.irem, 40, 0, .null, [])),
  (40, (.istore_n 3, 41, 3, .null, [])),
  (41, (.iload_n 3, 42, 3, .null, [])),
  (42, (.aload_n 0, 43, 0, .null, [])),
  (43, (.getfield 29, 46, 29, .null, [])),
  (46, (.getfield 209, 49, 209, .null, [])),
  (49, (.if_icmp .ne 8, 52, 57, .null, [])),
  (52, (.bipush 10, 54, 0, .int (10 : Int32), [])),
  (54, (.goto 17, 57, 71, .null, [])),
  (57, (.aload_n 0, 58, 0, .null, [])),
  (58, (.getfield 54, 61, 54, .null, [])),
  (61, (.iload_n 3, 62, 3, .null, [])),
  (62, (.iload_n 1, 63, 1, .null, [])),
  (63, (.iload_n 2, 64, 2, .null, [])),
  (64, (.idiv, 65, 0, .null, [])),
  (65, (.invokestatic 284, 68, 284, .null, [])),
  (68, (.invokevirtual 336, 71, 336, .null, [])),
  (71, (.ireturn, 72, 0, .null, []))]
def mD_pictureByte : List (Nat × XM) := [(284, (2, 1, none, FD_cellAt)), (336, (2, 1, some 0, FB_byteOf))]
abbrev BD_pictureByte : XB := (rD_pictureByte, XFT_D, mD_pictureByte, 1, XST_D)
set_option maxRecDepth 100000 in
theorem kD_pictureByte : XOK BD_pictureByte cX8_pictureByte 4 RX8 3 63 := xok_of (cps := []) (K := XKT_D) (by decide +kernel) XKT_D_ok (fun _ h => absurd h List.not_mem_nil) XFT_D_ok (List.forall_mem_cons.mpr ⟨⟨_, _, _, _, _, _, SD_cellAt, Nat.le_of_ble_eq_true rfl, Nat.le_of_ble_eq_true rfl, cdD_cellAt, lkD_284, imD_cellAt, inD_cellAt, pmD_cellAt⟩, List.forall_mem_cons.mpr ⟨⟨_, _, _, _, _, _, _, SB_byteOf, rfl, rfl, Nat.le_of_ble_eq_true rfl, Nat.le_of_ble_eq_true rfl, cdB_byteOf, lkD_336, imB_byteOf, slB_byteOf, inB_byteOf, pmB_byteOf⟩, fun _ h => absurd h List.not_mem_nil⟩⟩) XST_D_ok
def wD_pictureByte (f : Nat → Int32 → XH → XR) : List Value → List Value → XH → XR := fun vs st h => match vs, st with
  | [.ref a0, .int x1], [] => f a0 x1 h
  | _, _ => none
set_option maxRecDepth 100000 in
theorem eD_pictureByte (a0 : Nat) (x1 : Int32) (h : XH) : qD_pictureByte a0 x1 h = xrun BD_pictureByte (xfind []) 45 0 (List.zip [0, 1] [.ref a0, .int x1]) [] h := rfl
theorem tD_pictureByte : XTo cX8_pictureByte 4 RX8 1 3 63 0 [0, 1] (wD_pictureByte (qD_pictureByte)) := by
  refine XTo.run (B := BD_pictureByte) (cut := xfind []) kD_pictureByte (xcuts_ok (fun _ h => absurd h List.not_mem_nil)) 45 (fun vs st h r hr => ?_)
  unfold wD_pictureByte at hr
  split at hr
  · exact (eD_pictureByte _ _ _).symm.trans hr
  · cases hr
def FD_pictureByte : List Value → XH → XR := fun vs h => match vs with
  | [.ref a0, .int x1] => qD_pictureByte a0 x1 h
  | _ => none
theorem SD_pictureByte : XS yX8_pictureByte cX8_pictureByte 4 (some .int) (xrm 3 63) FD_pictureByte := by
  refine XS.of (own := RX8) (by decide) rfl (rk := 1) rfl (tD_pictureByte) (fun vs h r hr => ?_)
  unfold FD_pictureByte at hr
  split at hr
  · exact ⟨rfl, Nat.le_of_ble_eq_true rfl, hr⟩
  · cases hr
-- LineDiagramModel.pictureByte(I)I
def rM_pictureByte : List (Nat × XRow) := [(0, (.iload_n 1, 1, 1, .null, [])),
  (1, (.ifCond .ge 5, 4, 6, .null, [])),
  (4, (.iconst (-1), 5, 0, .int (-1 : Int32), [])),
  (5, (.ireturn, 6, 0, .null, [])),
  (6, (.aload_n 0, 7, 0, .null, [])),
  (7, (.iload_n 1, 8, 1, .null, [])),
  (8, (.invokevirtual 496, 11, 496, .null, [])),
  (11, (.aload_n 0, 12, 0, .null, [])),
  (12, (.getfield 479, 15, 479, .null, [])),
  (15, (.ireturn, 16, 0, .null, []))]
def mM_pictureByte : List (Nat × XM) := [(496, (2, 0, some 9, FM_saysPicture))]
abbrev BM_pictureByte : XB := (rM_pictureByte, XFT_M, mM_pictureByte, 1, XST_M)
set_option maxRecDepth 100000 in
theorem kM_pictureByte : XOK BM_pictureByte cX9_pictureByte 2 RX9 7 161 := xok_of (cps := []) (K := XKT_M) (by decide +kernel) XKT_M_ok (fun _ h => absurd h List.not_mem_nil) XFT_M_ok (List.forall_mem_cons.mpr ⟨⟨_, _, _, _, _, _, _, SM_saysPicture, rfl, rfl, Nat.le_of_ble_eq_true rfl, Nat.le_of_ble_eq_true rfl, cdM_saysPicture, lkM_496, imM_saysPicture, slM_saysPicture, inM_saysPicture, pmM_saysPicture⟩, fun _ h => absurd h List.not_mem_nil⟩) XST_M_ok
def wM_pictureByte (f : Nat → Int32 → XH → XR) : List Value → List Value → XH → XR := fun vs st h => match vs, st with
  | [.ref a0, .int x1], [] => f a0 x1 h
  | _, _ => none
set_option maxRecDepth 100000 in
theorem eM_pictureByte (a0 : Nat) (x1 : Int32) (h : XH) : qM_pictureByte a0 x1 h = xrun BM_pictureByte (xfind []) 13 0 (List.zip [0, 1] [.ref a0, .int x1]) [] h := rfl
theorem tM_pictureByte : XTo cX9_pictureByte 2 RX9 1 7 161 0 [0, 1] (wM_pictureByte (qM_pictureByte)) := by
  refine XTo.run (B := BM_pictureByte) (cut := xfind []) kM_pictureByte (xcuts_ok (fun _ h => absurd h List.not_mem_nil)) 13 (fun vs st h r hr => ?_)
  unfold wM_pictureByte at hr
  split at hr
  · exact (eM_pictureByte _ _ _).symm.trans hr
  · cases hr
def FM_pictureByte : List Value → XH → XR := fun vs h => match vs with
  | [.ref a0, .int x1] => qM_pictureByte a0 x1 h
  | _ => none
theorem SM_pictureByte : XS yX9_pictureByte cX9_pictureByte 2 (some .int) (xrm 7 161) FM_pictureByte := by
  refine XS.of (own := RX9) (by decide) rfl (rk := 1) rfl (tM_pictureByte) (fun vs h r hr => ?_)
  unfold FM_pictureByte at hr
  split at hr
  · exact ⟨rfl, Nat.le_of_ble_eq_true rfl, hr⟩
  · cases hr
-- java/lang/String.coder()B
def rJS_coder : List (Nat × XRow) := [(0, (.getstatic 38, 3, 38, .null, [])),
  (3, (.ifCond .eq 10, 6, 13, .null, [])),
  (6, (.aload_n 0, 7, 0, .null, [])),
  (7, (.getfield 15, 10, 15, .null, [])),
  (10, (.goto 4, 13, 14, .null, [])),
  (13, (.iconst 1, 14, 0, .int (1 : Int32), [])),
  (14, (.ireturn, 15, 0, .null, []))]
def mJS_coder : List (Nat × XM) := []
abbrev BJS_coder : XB := (rJS_coder, XFT_JS, mJS_coder, 7, XST_JS)
set_option maxRecDepth 100000 in
theorem kJS_coder : XOK BJS_coder cJ0_coder_7d493 1 RJ0 0 0 := xok_of (cps := []) (K := XKT_JS) (by decide +kernel) XKT_JS_ok (fun _ h => absurd h List.not_mem_nil) XFT_JS_ok (fun _ h => absurd h List.not_mem_nil) XST_JS_ok
def wJS_coder (f : Nat → XH → XR) : List Value → List Value → XH → XR := fun vs st h => match vs, st with
  | [.ref a0], [] => f a0 h
  | _, _ => none
set_option maxRecDepth 100000 in
theorem eJS_coder (a0 : Nat) (h : XH) : qJS_coder a0 h = xrun BJS_coder (xfind []) 10 0 (List.zip [0] [.ref a0]) [] h := rfl
theorem tJS_coder : XTo cJ0_coder_7d493 1 RJ0 7 0 0 0 [0] (wJS_coder (qJS_coder)) := by
  refine XTo.run (B := BJS_coder) (cut := xfind []) kJS_coder (xcuts_ok (fun _ h => absurd h List.not_mem_nil)) 10 (fun vs st h r hr => ?_)
  unfold wJS_coder at hr
  split at hr
  · exact (eJS_coder _ _).symm.trans hr
  · cases hr
def FJS_coder : List Value → XH → XR := fun vs h => match vs with
  | [.ref a0] => qJS_coder a0 h
  | _ => none
theorem SJS_coder : XS yJ0_coder_7d493 cJ0_coder_7d493 1 (some .byte) (xrm 0 0) FJS_coder := by
  refine XS.of (own := RJ0) (by decide) rfl (rk := 7) rfl (tJS_coder) (fun vs h r hr => ?_)
  unfold FJS_coder at hr
  split at hr
  · exact ⟨rfl, Nat.le_of_ble_eq_true rfl, hr⟩
  · cases hr
-- java/lang/String.length()I
def rJS_length : List (Nat × XRow) := [(0, (.aload_n 0, 1, 0, .null, [])),
  (1, (.getfield 9, 4, 9, .null, [])),
  (4, (.arraylength, 5, 0, .null, [])),
  (5, (.aload_n 0, 6, 0, .null, [])),
  (6, (.invokevirtual 335, 9, 335, .null, [])),
  (9, (.ishr, 10, 0, .null, [])),
  (10, (.ireturn, 11, 0, .null, []))]
def mJS_length : List (Nat × XM) := [(335, (1, 1, some 10, FJS_coder))]
abbrev BJS_length : XB := (rJS_length, XFT_JS, mJS_length, 1, XST_JS)
set_option maxRecDepth 100000 in
theorem kJS_length : XOK BJS_length cJ0_length_8abf5 1 RJ0 1 20 := xok_of (cps := []) (K := XKT_JS) (by decide +kernel) XKT_JS_ok (fun _ h => absurd h List.not_mem_nil) XFT_JS_ok (List.forall_mem_cons.mpr ⟨⟨_, _, _, _, _, _, _, SJS_coder, rfl, rfl, Nat.le_of_ble_eq_true rfl, Nat.le_of_ble_eq_true rfl, cdJS_coder, lkJS_335, imJS_coder, slJS_coder, inJS_coder, pmJS_coder⟩, fun _ h => absurd h List.not_mem_nil⟩) XST_JS_ok
def wJS_length (f : Nat → XH → XR) : List Value → List Value → XH → XR := fun vs st h => match vs, st with
  | [.ref a0], [] => f a0 h
  | _, _ => none
set_option maxRecDepth 100000 in
theorem eJS_length (a0 : Nat) (h : XH) : qJS_length a0 h = xrun BJS_length (xfind []) 10 0 (List.zip [0] [.ref a0]) [] h := rfl
theorem tJS_length : XTo cJ0_length_8abf5 1 RJ0 1 1 20 0 [0] (wJS_length (qJS_length)) := by
  refine XTo.run (B := BJS_length) (cut := xfind []) kJS_length (xcuts_ok (fun _ h => absurd h List.not_mem_nil)) 10 (fun vs st h r hr => ?_)
  unfold wJS_length at hr
  split at hr
  · exact (eJS_length _ _).symm.trans hr
  · cases hr
def FJS_length : List Value → XH → XR := fun vs h => match vs with
  | [.ref a0] => qJS_length a0 h
  | _ => none
theorem SJS_length : XS yJ0_length_8abf5 cJ0_length_8abf5 1 (some .int) (xrm 1 20) FJS_length := by
  refine XS.of (own := RJ0) (by decide) rfl (rk := 1) rfl (tJS_length) (fun vs h r hr => ?_)
  unfold FJS_length at hr
  split at hr
  · exact ⟨rfl, Nat.le_of_ble_eq_true rfl, hr⟩
  · cases hr
-- java/lang/String.isLatin1()Z
def rJS_isLatin1 : List (Nat × XRow) := [(0, (.getstatic 38, 3, 38, .null, [])),
  (3, (.ifCond .eq 14, 6, 17, .null, [])),
  (6, (.aload_n 0, 7, 0, .null, [])),
  (7, (.getfield 15, 10, 15, .null, [])),
  (10, (.ifCond .ne 7, 13, 17, .null, [])),
  (13, (.iconst 1, 14, 0, .int (1 : Int32), [])),
  (14, (.goto 4, 17, 18, .null, [])),
  (17, (.iconst 0, 18, 0, .int (0 : Int32), [])),
  (18, (.ireturn, 19, 0, .null, []))]
def mJS_isLatin1 : List (Nat × XM) := []
abbrev BJS_isLatin1 : XB := (rJS_isLatin1, XFT_JS, mJS_isLatin1, 6, XST_JS)
set_option maxRecDepth 100000 in
theorem kJS_isLatin1 : XOK BJS_isLatin1 cJ0_isLatin1_aae02 1 RJ0 0 0 := xok_of (cps := []) (K := XKT_JS) (by decide +kernel) XKT_JS_ok (fun _ h => absurd h List.not_mem_nil) XFT_JS_ok (fun _ h => absurd h List.not_mem_nil) XST_JS_ok
def wJS_isLatin1 (f : Nat → XH → XR) : List Value → List Value → XH → XR := fun vs st h => match vs, st with
  | [.ref a0], [] => f a0 h
  | _, _ => none
set_option maxRecDepth 100000 in
theorem eJS_isLatin1 (a0 : Nat) (h : XH) : qJS_isLatin1 a0 h = xrun BJS_isLatin1 (xfind []) 12 0 (List.zip [0] [.ref a0]) [] h := rfl
theorem tJS_isLatin1 : XTo cJ0_isLatin1_aae02 1 RJ0 6 0 0 0 [0] (wJS_isLatin1 (qJS_isLatin1)) := by
  refine XTo.run (B := BJS_isLatin1) (cut := xfind []) kJS_isLatin1 (xcuts_ok (fun _ h => absurd h List.not_mem_nil)) 12 (fun vs st h r hr => ?_)
  unfold wJS_isLatin1 at hr
  split at hr
  · exact (eJS_isLatin1 _ _).symm.trans hr
  · cases hr
def FJS_isLatin1 : List Value → XH → XR := fun vs h => match vs with
  | [.ref a0] => qJS_isLatin1 a0 h
  | _ => none
theorem SJS_isLatin1 : XS yJ0_isLatin1_aae02 cJ0_isLatin1_aae02 1 (some .boolean) (xrm 0 0) FJS_isLatin1 := by
  refine XS.of (own := RJ0) (by decide) rfl (rk := 6) rfl (tJS_isLatin1) (fun vs h r hr => ?_)
  unfold FJS_isLatin1 at hr
  split at hr
  · exact ⟨rfl, Nat.le_of_ble_eq_true rfl, hr⟩
  · cases hr
-- java/lang/String.checkIndex(II)V
def rJS_checkIndex : List (Nat × XRow) := [(0, (.iload_n 0, 1, 0, .null, [])),
  (1, (.iload_n 1, 2, 1, .null, [])),
  (2, (.getstatic 1053, 5, 1053, .null, [])),
  (5, (.invokestatic 1059, 8, 1059, .null, [])),
  (8, (.pop, 9, 0, .null, [])),
  (9, (.return_, 10, 0, .null, []))]
def mJS_checkIndex : List (Nat × XM) := [(1059, (3, 1, none, FJP_checkIndex))]
abbrev BJS_checkIndex : XB := (rJS_checkIndex, XFT_JS, mJS_checkIndex, 0, XST_JS)
set_option maxRecDepth 100000 in
theorem kJS_checkIndex : XOK BJS_checkIndex cJ0_checkIndex_df160 2 RJ0 1 22 := xok_of (cps := []) (K := XKT_JS) (by decide +kernel) XKT_JS_ok (fun _ h => absurd h List.not_mem_nil) XFT_JS_ok (List.forall_mem_cons.mpr ⟨⟨_, _, _, _, _, _, SJP_checkIndex, Nat.le_of_ble_eq_true rfl, Nat.le_of_ble_eq_true rfl, cdJP_checkIndex, lkJS_1059, imJP_checkIndex, inJP_checkIndex, pmJP_checkIndex⟩, fun _ h => absurd h List.not_mem_nil⟩) XST_JS_ok
def wJS_checkIndex (f : Int32 → Int32 → XH → XR) : List Value → List Value → XH → XR := fun vs st h => match vs, st with
  | [.int x0, .int x1], [] => f x0 x1 h
  | _, _ => none
set_option maxRecDepth 100000 in
theorem eJS_checkIndex (x0 : Int32) (x1 : Int32) (h : XH) : qJS_checkIndex x0 x1 h = xrun BJS_checkIndex (xfind []) 9 0 (List.zip [0, 1] [.int x0, .int x1]) [] h := rfl
theorem tJS_checkIndex : XTo cJ0_checkIndex_df160 2 RJ0 0 1 22 0 [0, 1] (wJS_checkIndex (qJS_checkIndex)) := by
  refine XTo.run (B := BJS_checkIndex) (cut := xfind []) kJS_checkIndex (xcuts_ok (fun _ h => absurd h List.not_mem_nil)) 9 (fun vs st h r hr => ?_)
  unfold wJS_checkIndex at hr
  split at hr
  · exact (eJS_checkIndex _ _ _).symm.trans hr
  · cases hr
def FJS_checkIndex : List Value → XH → XR := fun vs h => match vs with
  | [.int x0, .int x1] => qJS_checkIndex x0 x1 h
  | _ => none
theorem SJS_checkIndex : XS yJ0_checkIndex_df160 cJ0_checkIndex_df160 2 none (xrm 1 22) FJS_checkIndex := by
  refine XS.of (own := RJ0) (by decide) rfl (rk := 0) rfl (tJS_checkIndex) (fun vs h r hr => ?_)
  unfold FJS_checkIndex at hr
  split at hr
  · exact ⟨rfl, Nat.le_of_ble_eq_true rfl, hr⟩
  · cases hr
-- java/lang/StringLatin1.charAt([BI)C
def rJL_charAt : List (Nat × XRow) := [(0, (.iload_n 1, 1, 1, .null, [])),
  (1, (.aload_n 0, 2, 0, .null, [])),
  (2, (.arraylength, 3, 0, .null, [])),
  (3, (.invokestatic 9, 6, 9, .null, [])),
  (6, (.aload_n 0, 7, 0, .null, [])),
  (7, (.iload_n 1, 8, 1, .null, [])),
  (8, (.baload, 9, 0, .null, [])),
  (9, (.sipush 255, 12, 0, .int (255 : Int32), [])),
  (12, (.iand, 13, 0, .null, [])),
  (13, (.i2c, 14, 0, .null, [])),
  (14, (.ireturn, 15, 0, .null, []))]
def mJL_charAt : List (Nat × XM) := [(9, (2, 0, none, FJS_checkIndex))]
abbrev BJL_charAt : XB := (rJL_charAt, XFT_JL, mJL_charAt, 8, XST_JL)
set_option maxRecDepth 100000 in
theorem kJL_charAt : XOK BJL_charAt cJ1_charAt_3b067 2 RJ1 2 43 := xok_of (cps := []) (K := XKT_JL) (by decide +kernel) XKT_JL_ok (fun _ h => absurd h List.not_mem_nil) XFT_JL_ok (List.forall_mem_cons.mpr ⟨⟨_, _, _, _, _, _, SJS_checkIndex, Nat.le_of_ble_eq_true rfl, Nat.le_of_ble_eq_true rfl, cdJS_checkIndex, lkJL_9, imJS_checkIndex, inJS_checkIndex, pmJS_checkIndex⟩, fun _ h => absurd h List.not_mem_nil⟩) XST_JL_ok
def wJL_charAt (f : Nat → Int32 → XH → XR) : List Value → List Value → XH → XR := fun vs st h => match vs, st with
  | [.ref a0, .int x1], [] => f a0 x1 h
  | _, _ => none
set_option maxRecDepth 100000 in
theorem eJL_charAt (a0 : Nat) (x1 : Int32) (h : XH) : qJL_charAt a0 x1 h = xrun BJL_charAt (xfind []) 14 0 (List.zip [0, 1] [.ref a0, .int x1]) [] h := rfl
theorem tJL_charAt : XTo cJ1_charAt_3b067 2 RJ1 8 2 43 0 [0, 1] (wJL_charAt (qJL_charAt)) := by
  refine XTo.run (B := BJL_charAt) (cut := xfind []) kJL_charAt (xcuts_ok (fun _ h => absurd h List.not_mem_nil)) 14 (fun vs st h r hr => ?_)
  unfold wJL_charAt at hr
  split at hr
  · exact (eJL_charAt _ _ _).symm.trans hr
  · cases hr
def FJL_charAt : List Value → XH → XR := fun vs h => match vs with
  | [.ref a0, .int x1] => qJL_charAt a0 x1 h
  | _ => none
theorem SJL_charAt : XS yJ1_charAt_3b067 cJ1_charAt_3b067 2 (some .char) (xrm 2 43) FJL_charAt := by
  refine XS.of (own := RJ1) (by decide) rfl (rk := 8) rfl (tJL_charAt) (fun vs h r hr => ?_)
  unfold FJL_charAt at hr
  split at hr
  · exact ⟨rfl, Nat.le_of_ble_eq_true rfl, hr⟩
  · cases hr
-- java/lang/String.charAt(I)C
def rJS_charAt : List (Nat × XRow) := [(0, (.aload_n 0, 1, 0, .null, [])),
  (1, (.invokevirtual 492, 4, 492, .null, [])),
  (4, (.ifCond .eq 12, 7, 16, .null, [])),
  (7, (.aload_n 0, 8, 0, .null, [])),
  (8, (.getfield 9, 11, 9, .null, [])),
  (11, (.iload_n 1, 12, 1, .null, [])),
  (12, (.invokestatic 495, 15, 495, .null, [])),
  (15, (.ireturn, 16, 0, .null, [])),
  (16, (.aload_n 0, 17, 0, .null, [])),
  (17, (.getfield 9, 20, 9, .null, [])),
  (20, (.iload_n 1, 21, 1, .null, [])),
  (21, (.invokestatic 498, 24, 498, .null, [])),
  (24, (.ireturn, 25, 0, .null, []))]
def mJS_charAt : List (Nat × XM) := [(492, (1, 1, some 10, FJS_isLatin1)), (495, (2, 1, none, FJL_charAt))]
abbrev BJS_charAt : XB := (rJS_charAt, XFT_JS, mJS_charAt, 8, XST_JS)
set_option maxRecDepth 100000 in
theorem kJS_charAt : XOK BJS_charAt cJ0_charAt_5068e 2 RJ0 3 64 := xok_of (cps := []) (K := XKT_JS) (by decide +kernel) XKT_JS_ok (fun _ h => absurd h List.not_mem_nil) XFT_JS_ok (List.forall_mem_cons.mpr ⟨⟨_, _, _, _, _, _, _, SJS_isLatin1, rfl, rfl, Nat.le_of_ble_eq_true rfl, Nat.le_of_ble_eq_true rfl, cdJS_isLatin1, lkJS_492, imJS_isLatin1, slJS_isLatin1, inJS_isLatin1, pmJS_isLatin1⟩, List.forall_mem_cons.mpr ⟨⟨_, _, _, _, _, _, SJL_charAt, Nat.le_of_ble_eq_true rfl, Nat.le_of_ble_eq_true rfl, cdJL_charAt, lkJS_495, imJL_charAt, inJL_charAt, pmJL_charAt⟩, fun _ h => absurd h List.not_mem_nil⟩⟩) XST_JS_ok
def wJS_charAt (f : Nat → Int32 → XH → XR) : List Value → List Value → XH → XR := fun vs st h => match vs, st with
  | [.ref a0, .int x1], [] => f a0 x1 h
  | _, _ => none
set_option maxRecDepth 100000 in
theorem eJS_charAt (a0 : Nat) (x1 : Int32) (h : XH) : qJS_charAt a0 x1 h = xrun BJS_charAt (xfind []) 16 0 (List.zip [0, 1] [.ref a0, .int x1]) [] h := rfl
theorem tJS_charAt : XTo cJ0_charAt_5068e 2 RJ0 8 3 64 0 [0, 1] (wJS_charAt (qJS_charAt)) := by
  refine XTo.run (B := BJS_charAt) (cut := xfind []) kJS_charAt (xcuts_ok (fun _ h => absurd h List.not_mem_nil)) 16 (fun vs st h r hr => ?_)
  unfold wJS_charAt at hr
  split at hr
  · exact (eJS_charAt _ _ _).symm.trans hr
  · cases hr
def FJS_charAt : List Value → XH → XR := fun vs h => match vs with
  | [.ref a0, .int x1] => qJS_charAt a0 x1 h
  | _ => none
theorem SJS_charAt : XS yJ0_charAt_5068e cJ0_charAt_5068e 2 (some .char) (xrm 3 64) FJS_charAt := by
  refine XS.of (own := RJ0) (by decide) rfl (rk := 8) rfl (tJS_charAt) (fun vs h r hr => ?_)
  unfold FJS_charAt at hr
  split at hr
  · exact ⟨rfl, Nat.le_of_ble_eq_true rfl, hr⟩
  · cases hr
-- LineDiagram$Text.addWord(Ljava/lang/String;)V
def rT_addWord : List (Nat × XRow) := [(0, (.iconst 0, 1, 0, .int (0 : Int32), [])),
  (1, (.istore_n 2, 2, 2, .null, [])),
  (2, (.iload_n 2, 3, 2, .null, [])),
  (3, (.aload_n 1, 4, 1, .null, [])),
  (4, (.invokevirtual 23, 7, 23, .null, [])),
  (7, (.if_icmp .ge 18, 10, 25, .null, [])),
  (10, (.aload_n 0, 11, 0, .null, [])),
  (11, (.aload_n 1, 12, 1, .null, [])),
  (12, (.iload_n 2, 13, 2, .null, [])),
  (13, (.invokevirtual 28, 16, 28, .null, [])),
  (16, (.invokevirtual 19, 19, 19, .null, [])),
  (19, (.iinc 2 1, 22, 2, .int (1 : Int32), [])),
  (22, (.goto (-20), 25, 2, .null, [])),
  (25, (.return_, 26, 0, .null, []))]
def mT_addWord : List (Nat × XM) := [(19, (2, 0, some 6, FT_addByte)), (23, (1, 1, some 10, FJS_length)), (28, (2, 1, some 10, FJS_charAt))]
abbrev BT_addWord : XB := (rT_addWord, XFT_T, mT_addWord, 0, XST_T)
set_option maxRecDepth 100000 in
theorem kT_addWord : XOK BT_addWord cX6_addWord 3 RX6 4 85 := xok_of (cps := []) (K := XKT_T) (by decide +kernel) XKT_T_ok (fun _ h => absurd h List.not_mem_nil) XFT_T_ok (List.forall_mem_cons.mpr ⟨⟨_, _, _, _, _, _, _, ST_addByte, rfl, rfl, Nat.le_of_ble_eq_true rfl, Nat.le_of_ble_eq_true rfl, cdT_addByte, lkT_19, imT_addByte, slT_addByte, inT_addByte, pmT_addByte⟩, List.forall_mem_cons.mpr ⟨⟨_, _, _, _, _, _, _, SJS_length, rfl, rfl, Nat.le_of_ble_eq_true rfl, Nat.le_of_ble_eq_true rfl, cdJS_length, lkT_23, imJS_length, slJS_length, inJS_length, pmJS_length⟩, List.forall_mem_cons.mpr ⟨⟨_, _, _, _, _, _, _, SJS_charAt, rfl, rfl, Nat.le_of_ble_eq_true rfl, Nat.le_of_ble_eq_true rfl, cdJS_charAt, lkT_28, imJS_charAt, slJS_charAt, inJS_charAt, pmJS_charAt⟩, fun _ h => absurd h List.not_mem_nil⟩⟩⟩) XST_T_ok
def wT_addWord_2 (f : Nat → Nat → Int32 → XH → XR) : List Value → List Value → XH → XR := fun vs st h => match vs, st with
  | [.ref a0, .ref a1, .int x2], [] => f a0 a1 x2 h
  | _, _ => none
def wT_addWord (f : Nat → Nat → XH → XR) : List Value → List Value → XH → XR := fun vs st h => match vs, st with
  | [.ref a0, .ref a1], [] => f a0 a1 h
  | _, _ => none
set_option maxRecDepth 100000 in
theorem eT_addWord_2_b (k2 : Nat → Nat → Int32 → XH → XR) (a0 : Nat) (a1 : Nat) (x2 : Int32) (h : XH) : qT_addWord_2_b k2 a0 a1 x2 h = xrun BT_addWord (xfind [(2, ([0, 1, 2], wT_addWord_2 (k2)))]) 17 2 (List.zip [0, 1, 2] [.ref a0, .ref a1, .int x2]) [] h := rfl
theorem tT_addWord_2_b {k2 : Nat → Nat → Int32 → XH → XR} (hk2 : XTo cX6_addWord 3 RX6 0 4 85 2 [0, 1, 2] (wT_addWord_2 k2)) : XTo cX6_addWord 3 RX6 0 4 85 2 [0, 1, 2] (wT_addWord_2 (qT_addWord_2_b k2)) := by
  refine XTo.run (B := BT_addWord) (cut := xfind [(2, ([0, 1, 2], wT_addWord_2 (k2)))]) kT_addWord (xcuts_ok (List.forall_mem_cons.mpr ⟨hk2, fun _ h => absurd h List.not_mem_nil⟩)) 17 (fun vs st h r hr => ?_)
  unfold wT_addWord_2 at hr
  split at hr
  · exact (eT_addWord_2_b k2 _ _ _ _).symm.trans hr
  · cases hr
theorem tT_addWord_2 : ∀ n : Nat, XTo cX6_addWord 3 RX6 0 4 85 2 [0, 1, 2] (wT_addWord_2 (qT_addWord_2 n)) := by
  intro n
  induction n with
  | zero =>
    refine XTo.none fun vs st h => ?_
    unfold wT_addWord_2
    split <;> rfl
  | succ n ih => exact tT_addWord_2_b  ih
set_option maxRecDepth 100000 in
theorem eT_addWord (a0 : Nat) (a1 : Nat) (h : XH) : qT_addWord a0 a1 h = xrun BT_addWord (xfind [(2, ([0, 1, 2], wT_addWord_2 (qT_addWord_2 LF)))]) 17 0 (List.zip [0, 1] [.ref a0, .ref a1]) [] h := rfl
theorem tT_addWord : XTo cX6_addWord 3 RX6 0 4 85 0 [0, 1] (wT_addWord (qT_addWord)) := by
  refine XTo.run (B := BT_addWord) (cut := xfind [(2, ([0, 1, 2], wT_addWord_2 (qT_addWord_2 LF)))]) kT_addWord (xcuts_ok (List.forall_mem_cons.mpr ⟨tT_addWord_2 LF, fun _ h => absurd h List.not_mem_nil⟩)) 17 (fun vs st h r hr => ?_)
  unfold wT_addWord at hr
  split at hr
  · exact (eT_addWord _ _ _).symm.trans hr
  · cases hr
def FT_addWord : List Value → XH → XR := fun vs h => match vs with
  | [.ref a0, .ref a1] => qT_addWord a0 a1 h
  | _ => none
theorem ST_addWord : XS yX6_addWord cX6_addWord 3 none (xrm 4 85) FT_addWord := by
  refine XS.of (own := RX6) (by decide) rfl (rk := 0) rfl (tT_addWord) (fun vs h r hr => ?_)
  unfold FT_addWord at hr
  split at hr
  · exact ⟨rfl, Nat.le_of_ble_eq_true rfl, hr⟩
  · cases hr
-- LineDiagram$Text.addNumber(I)V
def rT_addNumber : List (Nat × XRow) := [(0, (.aload_n 0, 1, 0, .null, [])),
  (1, (.bipush 32, 3, 0, .int (32 : Int32), [])),
  (3, (.invokevirtual 19, 6, 19, .null, [])),
  (6, (.iload_n 1, 7, 1, .null, [])),
  (7, (.bipush 10, 9, 0, .int (10 : Int32), [])),
  (9, (.if_icmp .lt 14, 12, 23, .null, [])),
  (12, (.aload_n 0, 13, 0, .null, [])),
  (13, (.bipush 48, 15, 0, .int (48 : Int32), [])),
  (15, (.iload_n 1, 16, 1, .null, [])),
  (16, (.bipush 10, 18, 0, .int (10 : Int32), [])),
  (18, (.idiv, 19, 0, .null, [])),
  (19, (.iadd, 20, 0, .null, [])),
  (20, (.invokevirtual 19, 23, 19, .null, [])),
  (23, (.aload_n 0, 24, 0, .null, [])),
  (24, (.bipush 48, 26, 0, .int (48 : Int32), [])),
  (26, (.iload_n 1, 27, 1, .null, [])),
  (27, (.bipush 10, 29, 0, .int (10 : Int32), [])),
  (29, (.irem, 30, 0, .null, [])),
  (30, (.iadd, 31, 0, .null, [])),
  (31, (.invokevirtual 19, 34, 19, .null, [])),
  (34, (.return_, 35, 0, .null, []))]
def mT_addNumber : List (Nat × XM) := [(19, (2, 0, some 6, FT_addByte))]
abbrev BT_addNumber : XB := (rT_addNumber, XFT_T, mT_addNumber, 0, XST_T)
set_option maxRecDepth 100000 in
theorem kT_addNumber : XOK BT_addNumber cX6_addNumber 2 RX6 1 21 := xok_of (cps := []) (K := XKT_T) (by decide +kernel) XKT_T_ok (fun _ h => absurd h List.not_mem_nil) XFT_T_ok (List.forall_mem_cons.mpr ⟨⟨_, _, _, _, _, _, _, ST_addByte, rfl, rfl, Nat.le_of_ble_eq_true rfl, Nat.le_of_ble_eq_true rfl, cdT_addByte, lkT_19, imT_addByte, slT_addByte, inT_addByte, pmT_addByte⟩, fun _ h => absurd h List.not_mem_nil⟩) XST_T_ok
def wT_addNumber_23 (f : Nat → Int32 → XH → XR) : List Value → List Value → XH → XR := fun vs st h => match vs, st with
  | [.ref a0, .int x1], [] => f a0 x1 h
  | _, _ => none
def wT_addNumber (f : Nat → Int32 → XH → XR) : List Value → List Value → XH → XR := fun vs st h => match vs, st with
  | [.ref a0, .int x1], [] => f a0 x1 h
  | _, _ => none
set_option maxRecDepth 100000 in
theorem eT_addNumber_23 (a0 : Nat) (x1 : Int32) (h : XH) : qT_addNumber_23 a0 x1 h = xrun BT_addNumber (xfind []) 24 23 (List.zip [0, 1] [.ref a0, .int x1]) [] h := rfl
theorem tT_addNumber_23 : XTo cX6_addNumber 2 RX6 0 1 21 23 [0, 1] (wT_addNumber_23 (qT_addNumber_23)) := by
  refine XTo.run (B := BT_addNumber) (cut := xfind []) kT_addNumber (xcuts_ok (fun _ h => absurd h List.not_mem_nil)) 24 (fun vs st h r hr => ?_)
  unfold wT_addNumber_23 at hr
  split at hr
  · exact (eT_addNumber_23 _ _ _).symm.trans hr
  · cases hr
set_option maxRecDepth 100000 in
theorem eT_addNumber (a0 : Nat) (x1 : Int32) (h : XH) : qT_addNumber a0 x1 h = xrun BT_addNumber (xfind [(23, ([0, 1], wT_addNumber_23 (qT_addNumber_23)))]) 24 0 (List.zip [0, 1] [.ref a0, .int x1]) [] h := rfl
theorem tT_addNumber : XTo cX6_addNumber 2 RX6 0 1 21 0 [0, 1] (wT_addNumber (qT_addNumber)) := by
  refine XTo.run (B := BT_addNumber) (cut := xfind [(23, ([0, 1], wT_addNumber_23 (qT_addNumber_23)))]) kT_addNumber (xcuts_ok (List.forall_mem_cons.mpr ⟨tT_addNumber_23, fun _ h => absurd h List.not_mem_nil⟩)) 24 (fun vs st h r hr => ?_)
  unfold wT_addNumber at hr
  split at hr
  · exact (eT_addNumber _ _ _).symm.trans hr
  · cases hr
def FT_addNumber : List Value → XH → XR := fun vs h => match vs with
  | [.ref a0, .int x1] => qT_addNumber a0 x1 h
  | _ => none
theorem ST_addNumber : XS yX6_addNumber cX6_addNumber 2 none (xrm 1 21) FT_addNumber := by
  refine XS.of (own := RX6) (by decide) rfl (rk := 0) rfl (tT_addNumber) (fun vs h r hr => ?_)
  unfold FT_addNumber at hr
  split at hr
  · exact ⟨rfl, Nat.le_of_ble_eq_true rfl, hr⟩
  · cases hr
-- LineDiagram$Text.addName(I)V
def rT_addName : List (Nat × XRow) := [(0, (.iconst 0, 1, 0, .int (0 : Int32), [])),
  (1, (.istore_n 2, 2, 2, .null, [])),
  (2, (.iload_n 2, 3, 2, .null, [])),
  (3, (.bipush 6, 5, 0, .int (6 : Int32), [])),
  (5, (.if_icmp .ge 27, 8, 32, .null, [])),
  (8, (.iload_n 1, 9, 1, .null, [])),
  (9, (.iload_n 2, 10, 2, .null, [])),
  (10, (.invokestatic 32, 13, 32, .null, [])),
  (13, (.istore_n 3, 14, 3, .null, [])),
  (14, (.iload_n 3, 15, 3, .null, [])),
  (15, (.ifCond .eq 11, 18, 26, .null, [])),
  (18, (.aload_n 0, 19, 0, .null, [])),
  (19, (.bipush 96, 21, 0, .int (96 : Int32), [])),
  (21, (.iload_n 3, 22, 3, .null, [])),
  (22, (.iadd, 23, 0, .null, [])),
  (23, (.invokevirtual 19, 26, 19, .null, [])),
  (26, (.iinc 2 1, 29, 2, .int (1 : Int32), [])),
  (29, (.goto (-27), 32, 2, .null, [])),
  (32, (.return_, 33, 0, .null, []))]
def mT_addName : List (Nat × XM) := [(19, (2, 0, some 6, FT_addByte)), (32, (2, 1, none, FD_letterOf))]
abbrev BT_addName : XB := (rT_addName, XFT_T, mT_addName, 0, XST_T)
set_option maxRecDepth 100000 in
theorem kT_addName : XOK BT_addName cX6_addName 4 RX6 2 41 := xok_of (cps := []) (K := XKT_T) (by decide +kernel) XKT_T_ok (fun _ h => absurd h List.not_mem_nil) XFT_T_ok (List.forall_mem_cons.mpr ⟨⟨_, _, _, _, _, _, _, ST_addByte, rfl, rfl, Nat.le_of_ble_eq_true rfl, Nat.le_of_ble_eq_true rfl, cdT_addByte, lkT_19, imT_addByte, slT_addByte, inT_addByte, pmT_addByte⟩, List.forall_mem_cons.mpr ⟨⟨_, _, _, _, _, _, SD_letterOf, Nat.le_of_ble_eq_true rfl, Nat.le_of_ble_eq_true rfl, cdD_letterOf, lkT_32, imD_letterOf, inD_letterOf, pmD_letterOf⟩, fun _ h => absurd h List.not_mem_nil⟩⟩) XST_T_ok
def wT_addName_2 (f : Nat → Int32 → Int32 → XH → XR) : List Value → List Value → XH → XR := fun vs st h => match vs, st with
  | [.ref a0, .int x1, .int x2], [] => f a0 x1 x2 h
  | _, _ => none
def wT_addName (f : Nat → Int32 → XH → XR) : List Value → List Value → XH → XR := fun vs st h => match vs, st with
  | [.ref a0, .int x1], [] => f a0 x1 h
  | _, _ => none
set_option maxRecDepth 100000 in
theorem eT_addName_2_b (k2 : Nat → Int32 → Int32 → XH → XR) (a0 : Nat) (x1 : Int32) (x2 : Int32) (h : XH) : qT_addName_2_b k2 a0 x1 x2 h = xrun BT_addName (xfind [(2, ([0, 1, 2], wT_addName_2 (k2)))]) 22 2 (List.zip [0, 1, 2] [.ref a0, .int x1, .int x2]) [] h := rfl
theorem tT_addName_2_b {k2 : Nat → Int32 → Int32 → XH → XR} (hk2 : XTo cX6_addName 4 RX6 0 2 41 2 [0, 1, 2] (wT_addName_2 k2)) : XTo cX6_addName 4 RX6 0 2 41 2 [0, 1, 2] (wT_addName_2 (qT_addName_2_b k2)) := by
  refine XTo.run (B := BT_addName) (cut := xfind [(2, ([0, 1, 2], wT_addName_2 (k2)))]) kT_addName (xcuts_ok (List.forall_mem_cons.mpr ⟨hk2, fun _ h => absurd h List.not_mem_nil⟩)) 22 (fun vs st h r hr => ?_)
  unfold wT_addName_2 at hr
  split at hr
  · exact (eT_addName_2_b k2 _ _ _ _).symm.trans hr
  · cases hr
theorem tT_addName_2 : ∀ n : Nat, XTo cX6_addName 4 RX6 0 2 41 2 [0, 1, 2] (wT_addName_2 (qT_addName_2 n)) := by
  intro n
  induction n with
  | zero =>
    refine XTo.none fun vs st h => ?_
    unfold wT_addName_2
    split <;> rfl
  | succ n ih => exact tT_addName_2_b  ih
set_option maxRecDepth 100000 in
theorem eT_addName (a0 : Nat) (x1 : Int32) (h : XH) : qT_addName a0 x1 h = xrun BT_addName (xfind [(2, ([0, 1, 2], wT_addName_2 (qT_addName_2 LF)))]) 22 0 (List.zip [0, 1] [.ref a0, .int x1]) [] h := rfl
theorem tT_addName : XTo cX6_addName 4 RX6 0 2 41 0 [0, 1] (wT_addName (qT_addName)) := by
  refine XTo.run (B := BT_addName) (cut := xfind [(2, ([0, 1, 2], wT_addName_2 (qT_addName_2 LF)))]) kT_addName (xcuts_ok (List.forall_mem_cons.mpr ⟨tT_addName_2 LF, fun _ h => absurd h List.not_mem_nil⟩)) 22 (fun vs st h r hr => ?_)
  unfold wT_addName at hr
  split at hr
  · exact (eT_addName _ _ _).symm.trans hr
  · cases hr
def FT_addName : List Value → XH → XR := fun vs h => match vs with
  | [.ref a0, .int x1] => qT_addName a0 x1 h
  | _ => none
theorem ST_addName : XS yX6_addName cX6_addName 4 none (xrm 2 41) FT_addName := by
  refine XS.of (own := RX6) (by decide) rfl (rk := 0) rfl (tT_addName) (fun vs h r hr => ?_)
  unfold FT_addName at hr
  split at hr
  · exact ⟨rfl, Nat.le_of_ble_eq_true rfl, hr⟩
  · cases hr
