-- LineDiagram$Text.addByte(I)V
def rT_addByte : List (Nat × XRow) := [(0, (.aload_n 0, 1, 0, .null, [])),
  (1, (.getfield 15, 4, 15, .null, [])),
  (4, (.ifCond .lt 34, 7, 38, .null, [])),
  (7, (.aload_n 0, 8, 0, .null, [])),
  (8, (.getfield 15, 11, 15, .null, [])),
  (11, (.sipush 1000, 14, 0, .int (1000 : Int32), [])),
  (14, (.if_icmp .ge 24, 17, 38, .null, [])),
  (17, (.aload_n 0, 18, 0, .null, [])),
  (18, (.getfield 9, 21, 9, .null, [])),
  (21, (.aload_n 0, 22, 0, .null, [])),
  (22, (.getfield 15, 25, 15, .null, [])),
  (25, (.iload_n 1, 26, 1, .null, [])),
  (26, (.i2b, 27, 0, .null, [])),
  (27, (.bastore, 28, 0, .null, [])),
  (28, (.aload_n 0, 29, 0, .null, [])),
  (29, (.dup, 30, 0, .null, [])),
  (30, (.getfield 15, 33, 15, .null, [])),
  (33, (.iconst 1, 34, 0, .int (1 : Int32), [])),
  (34, (.iadd, 35, 0, .null, [])),
  (35, (.putfield 15, 38, 15, .null, [])),
  (38, (.return_, 39, 0, .null, []))]
def mT_addByte : List (Nat × XM) := []
abbrev BT_addByte : XB := (rT_addByte, XFT_T, mT_addByte, 0, XST_T)
set_option maxRecDepth 100000 in
theorem kT_addByte : XOK BT_addByte cX6_addByte 2 RX6 0 0 := xok_of (cps := []) (K := XKT_T) (by decide +kernel) XKT_T_ok (fun _ h => absurd h List.not_mem_nil) XFT_T_ok (fun _ h => absurd h List.not_mem_nil) XST_T_ok
def wT_addByte (f : Nat → Int32 → XH → XR) : List Value → List Value → XH → XR := fun vs st h => match vs, st with
  | [.ref a0, .int x1], [] => f a0 x1 h
  | _, _ => none
set_option maxRecDepth 100000 in
theorem eT_addByte (a0 : Nat) (x1 : Int32) (h : XH) : qT_addByte a0 x1 h = xrun BT_addByte (xfind []) 24 0 (List.zip [0, 1] [.ref a0, .int x1]) [] h := rfl
theorem tT_addByte : XTo cX6_addByte 2 RX6 0 0 0 0 [0, 1] (wT_addByte (qT_addByte)) := by
  refine XTo.run (B := BT_addByte) (cut := xfind []) kT_addByte (xcuts_ok (fun _ h => absurd h List.not_mem_nil)) 24 (fun vs st h r hr => ?_)
  unfold wT_addByte at hr
  split at hr
  · exact (eT_addByte _ _ _).symm.trans hr
  · cases hr
def FT_addByte : List Value → XH → XR := fun vs h => match vs with
  | [.ref a0, .int x1] => qT_addByte a0 x1 h
  | _ => none
theorem ST_addByte : XS yX6_addByte cX6_addByte 2 none (xrm 0 0) FT_addByte := by
  refine XS.of (own := RX6) (by decide) rfl (rk := 0) rfl (tT_addByte) (fun vs h r hr => ?_)
  unfold FT_addByte at hr
  split at hr
  · exact ⟨rfl, Nat.le_of_ble_eq_true rfl, hr⟩
  · cases hr
-- LineDiagram$Text.addInt(I)V
def rT_addInt : List (Nat × XRow) := [(0, (.aload_n 0, 1, 0, .null, [])),
  (1, (.iload_n 1, 2, 1, .null, [])),
  (2, (.bipush 24, 4, 0, .int (24 : Int32), [])),
  (4, (.ishr, 5, 0, .null, [])),
  (5, (.invokevirtual 19, 8, 19, .null, [])),
  (8, (.aload_n 0, 9, 0, .null, [])),
  (9, (.iload_n 1, 10, 1, .null, [])),
  (10, (.bipush 16, 12, 0, .int (16 : Int32), [])),
  (12, (.ishr, 13, 0, .null, [])),
  (13, (.invokevirtual 19, 16, 19, .null, [])),
  (16, (.aload_n 0, 17, 0, .null, [])),
  (17, (.iload_n 1, 18, 1, .null, [])),
  (18, (.bipush 8, 20, 0, .int (8 : Int32), [])),
  (20, (.ishr, 21, 0, .null, [])),
  (21, (.invokevirtual 19, 24, 19, .null, [])),
  (24, (.aload_n 0, 25, 0, .null, [])),
  (25, (.iload_n 1, 26, 1, .null, [])),
  (26, (.invokevirtual 19, 29, 19, .null, [])),
  (29, (.return_, 30, 0, .null, []))]
def mT_addInt : List (Nat × XM) := [(19, (2, 0, some 6, FT_addByte))]
abbrev BT_addInt : XB := (rT_addInt, XFT_T, mT_addInt, 0, XST_T)
set_option maxRecDepth 100000 in
theorem kT_addInt : XOK BT_addInt cX6_addInt 2 RX6 1 21 := xok_of (cps := []) (K := XKT_T) (by decide +kernel) XKT_T_ok (fun _ h => absurd h List.not_mem_nil) XFT_T_ok (List.forall_mem_cons.mpr ⟨⟨_, _, _, _, _, _, _, ST_addByte, rfl, rfl, Nat.le_of_ble_eq_true rfl, Nat.le_of_ble_eq_true rfl, cdT_addByte, lkT_19, imT_addByte, slT_addByte, inT_addByte, pmT_addByte⟩, fun _ h => absurd h List.not_mem_nil⟩) XST_T_ok
def wT_addInt (f : Nat → Int32 → XH → XR) : List Value → List Value → XH → XR := fun vs st h => match vs, st with
  | [.ref a0, .int x1], [] => f a0 x1 h
  | _, _ => none
set_option maxRecDepth 100000 in
theorem eT_addInt (a0 : Nat) (x1 : Int32) (h : XH) : qT_addInt a0 x1 h = xrun BT_addInt (xfind []) 22 0 (List.zip [0, 1] [.ref a0, .int x1]) [] h := rfl
theorem tT_addInt : XTo cX6_addInt 2 RX6 0 1 21 0 [0, 1] (wT_addInt (qT_addInt)) := by
  refine XTo.run (B := BT_addInt) (cut := xfind []) kT_addInt (xcuts_ok (fun _ h => absurd h List.not_mem_nil)) 22 (fun vs st h r hr => ?_)
  unfold wT_addInt at hr
  split at hr
  · exact (eT_addInt _ _ _).symm.trans hr
  · cases hr
def FT_addInt : List Value → XH → XR := fun vs h => match vs with
  | [.ref a0, .int x1] => qT_addInt a0 x1 h
  | _ => none
theorem ST_addInt : XS yX6_addInt cX6_addInt 2 none (xrm 1 21) FT_addInt := by
  refine XS.of (own := RX6) (by decide) rfl (rk := 0) rfl (tT_addInt) (fun vs h r hr => ?_)
  unfold FT_addInt at hr
  split at hr
  · exact ⟨rfl, Nat.le_of_ble_eq_true rfl, hr⟩
  · cases hr
-- LineDiagram.append(IIIII)I
def rD_append : List (Nat × XRow) := [(0, (.aload_n 0, 1, 0, .null, [])),
  (1, (.getfield 10, 4, 10, .null, [])),
  (4, (.getfield 83, 7, 83, .null, [])),
  (7, (.bipush 20, 9, 0, .int (20 : Int32), [])),
  (9, (.iadd, 10, 0, .null, [])),
  (10, (.sipush 1000, 13, 0, .int (1000 : Int32), [])),
  (13, (.if_icmp .le 5, 16, 18, .null, [])),
  (16, (.iconst (-1), 17, 0, .int (-1 : Int32), [])),
  (17, (.ireturn, 18, 0, .null, [])),
  (18, (.aload_n 0, 19, 0, .null, [])),
  (19, (.getfield 10, 22, 10, .null, [])),
  (22, (.iload_n 1, 23, 1, .null, [])),
  (23, (.invokevirtual 86, 26, 86, .null, [])),
  (26, (.aload_n 0, 27, 0, .null, [])),
  (27, (.getfield 10, 30, 10, .null, [])),
  (30, (.iload_n 2, 31, 2, .null, [])),
  (31, (.invokevirtual 86, 34, 86, .null, [])),
  (34, (.aload_n 0, 35, 0, .null, [])),
  (35, (.getfield 10, 38, 10, .null, [])),
  (38, (.iload_n 3, 39, 3, .null, [])),
  (39, (.invokevirtual 86, 42, 86, .null, [])),
  (42, (.aload_n 0, 43, 0, .null, [])),
  (43, (.getfield 10, 46, 10, .null, [])),
  (46, (.iload 4, 48, 4, .null, [])),
  (48, (.invokevirtual 86, 51, 86, .null, [])),
  (51, (.aload_n 0, 52, 0, .null, [])),
  (52, (.getfield 10, 55, 10, .null, [])),
  (55, (.iload 5, 57, 5, .null, [])),
  (57, (.invokevirtual 86, 60, 86, .null, [])),
  (60, (.aload_n 0, 61, 0, .null, [])),
  (61, (.getfield 10, 64, 10, .null, [])),
  (64, (.getfield 83, 67, 83, .null, [])),
  (67, (.ireturn, 68, 0, .null, []))]
def mD_append : List (Nat × XM) := [(86, (2, 0, some 6, FT_addInt))]
abbrev BD_append : XB := (rD_append, XFT_D, mD_append, 1, XST_D)
set_option maxRecDepth 100000 in
theorem kD_append : XOK BD_append cX8_append 6 RX8 2 42 := xok_of (cps := []) (K := XKT_D) (by decide +kernel) XKT_D_ok (fun _ h => absurd h List.not_mem_nil) XFT_D_ok (List.forall_mem_cons.mpr ⟨⟨_, _, _, _, _, _, _, ST_addInt, rfl, rfl, Nat.le_of_ble_eq_true rfl, Nat.le_of_ble_eq_true rfl, cdT_addInt, lkD_86, imT_addInt, slT_addInt, inT_addInt, pmT_addInt⟩, fun _ h => absurd h List.not_mem_nil⟩) XST_D_ok
def wD_append (f : Nat → Int32 → Int32 → Int32 → Int32 → Int32 → XH → XR) : List Value → List Value → XH → XR := fun vs st h => match vs, st with
  | [.ref a0, .int x1, .int x2, .int x3, .int x4, .int x5], [] => f a0 x1 x2 x3 x4 x5 h
  | _, _ => none
set_option maxRecDepth 100000 in
theorem eD_append (a0 : Nat) (x1 : Int32) (x2 : Int32) (x3 : Int32) (x4 : Int32) (x5 : Int32) (h : XH) : qD_append a0 x1 x2 x3 x4 x5 h = xrun BD_append (xfind []) 36 0 (List.zip [0, 1, 2, 3, 4, 5] [.ref a0, .int x1, .int x2, .int x3, .int x4, .int x5]) [] h := rfl
theorem tD_append : XTo cX8_append 6 RX8 1 2 42 0 [0, 1, 2, 3, 4, 5] (wD_append (qD_append)) := by
  refine XTo.run (B := BD_append) (cut := xfind []) kD_append (xcuts_ok (fun _ h => absurd h List.not_mem_nil)) 36 (fun vs st h r hr => ?_)
  unfold wD_append at hr
  split at hr
  · exact (eD_append _ _ _ _ _ _ _).symm.trans hr
  · cases hr
def FD_append : List Value → XH → XR := fun vs h => match vs with
  | [.ref a0, .int x1, .int x2, .int x3, .int x4, .int x5] => qD_append a0 x1 x2 x3 x4 x5 h
  | _ => none
theorem SD_append : XS yX8_append cX8_append 6 (some .int) (xrm 2 42) FD_append := by
  refine XS.of (own := RX8) (by decide) rfl (rk := 1) rfl (tD_append) (fun vs h r hr => ?_)
  unfold FD_append at hr
  split at hr
  · exact ⟨rfl, Nat.le_of_ble_eq_true rfl, hr⟩
  · cases hr
-- LineDiagramModel.feeds(I)V
def rM_feeds : List (Nat × XRow) := [(0, (.bipush 24, 2, 0, .int (24 : Int32), [])),
  (2, (.istore_n 2, 3, 2, .null, [])),
  (3, (.iload_n 2, 4, 2, .null, [])),
  (4, (.ifCond .lt 32, 7, 36, .null, [])),
  (7, (.aload_n 0, 8, 0, .null, [])),
  (8, (.getfield 7, 11, 7, .null, [])),
  (11, (.aload_n 0, 12, 0, .null, [])),
  (12, (.getfield 211, 15, 211, .null, [])),
  (15, (.iload_n 1, 16, 1, .null, [])),
  (16, (.iload_n 2, 17, 2, .null, [])),
  (17, (.ishr, 18, 0, .null, [])),
  (18, (.i2b, 19, 0, .null, [])),
  (19, (.bastore, 20, 0, .null, [])),
  (20, (.aload_n 0, 21, 0, .null, [])),
  (21, (.dup, 22, 0, .null, [])),
  (22, (.getfield 211, 25, 211, .null, [])),
  (25, (.iconst 1, 26, 0, .int (1 : Int32), [])),
  (26, (.iadd, 27, 0, .null, [])),
  (27, (.putfield 211, 30, 211, .null, [])),
  (30, (.iinc 2 (-8), 33, 2, .int (-8 : Int32), [])),
  (33, (.goto (-30), 36, 3, .null, [])),
  (36, (.return_, 37, 0, .null, []))]
def mM_feeds : List (Nat × XM) := []
abbrev BM_feeds : XB := (rM_feeds, XFT_M, mM_feeds, 0, XST_M)
set_option maxRecDepth 100000 in
theorem kM_feeds : XOK BM_feeds cX9_feeds 3 RX9 0 0 := xok_of (cps := []) (K := XKT_M) (by decide +kernel) XKT_M_ok (fun _ h => absurd h List.not_mem_nil) XFT_M_ok (fun _ h => absurd h List.not_mem_nil) XST_M_ok
def wM_feeds_3 (f : Nat → Int32 → Int32 → XH → XR) : List Value → List Value → XH → XR := fun vs st h => match vs, st with
  | [.ref a0, .int x1, .int x2], [] => f a0 x1 x2 h
  | _, _ => none
def wM_feeds (f : Nat → Int32 → XH → XR) : List Value → List Value → XH → XR := fun vs st h => match vs, st with
  | [.ref a0, .int x1], [] => f a0 x1 h
  | _, _ => none
set_option maxRecDepth 100000 in
theorem eM_feeds_3_b (k3 : Nat → Int32 → Int32 → XH → XR) (a0 : Nat) (x1 : Int32) (x2 : Int32) (h : XH) : qM_feeds_3_b k3 a0 x1 x2 h = xrun BM_feeds (xfind [(3, ([0, 1, 2], wM_feeds_3 (k3)))]) 25 3 (List.zip [0, 1, 2] [.ref a0, .int x1, .int x2]) [] h := rfl
theorem tM_feeds_3_b {k3 : Nat → Int32 → Int32 → XH → XR} (hk3 : XTo cX9_feeds 3 RX9 0 0 0 3 [0, 1, 2] (wM_feeds_3 k3)) : XTo cX9_feeds 3 RX9 0 0 0 3 [0, 1, 2] (wM_feeds_3 (qM_feeds_3_b k3)) := by
  refine XTo.run (B := BM_feeds) (cut := xfind [(3, ([0, 1, 2], wM_feeds_3 (k3)))]) kM_feeds (xcuts_ok (List.forall_mem_cons.mpr ⟨hk3, fun _ h => absurd h List.not_mem_nil⟩)) 25 (fun vs st h r hr => ?_)
  unfold wM_feeds_3 at hr
  split at hr
  · exact (eM_feeds_3_b k3 _ _ _ _).symm.trans hr
  · cases hr
theorem tM_feeds_3 : ∀ n : Nat, XTo cX9_feeds 3 RX9 0 0 0 3 [0, 1, 2] (wM_feeds_3 (qM_feeds_3 n)) := by
  intro n
  induction n with
  | zero =>
    refine XTo.none fun vs st h => ?_
    unfold wM_feeds_3
    split <;> rfl
  | succ n ih => exact tM_feeds_3_b  ih
set_option maxRecDepth 100000 in
theorem eM_feeds (a0 : Nat) (x1 : Int32) (h : XH) : qM_feeds a0 x1 h = xrun BM_feeds (xfind [(3, ([0, 1, 2], wM_feeds_3 (qM_feeds_3 LF)))]) 25 0 (List.zip [0, 1] [.ref a0, .int x1]) [] h := rfl
theorem tM_feeds : XTo cX9_feeds 3 RX9 0 0 0 0 [0, 1] (wM_feeds (qM_feeds)) := by
  refine XTo.run (B := BM_feeds) (cut := xfind [(3, ([0, 1, 2], wM_feeds_3 (qM_feeds_3 LF)))]) kM_feeds (xcuts_ok (List.forall_mem_cons.mpr ⟨tM_feeds_3 LF, fun _ h => absurd h List.not_mem_nil⟩)) 25 (fun vs st h r hr => ?_)
  unfold wM_feeds at hr
  split at hr
  · exact (eM_feeds _ _ _).symm.trans hr
  · cases hr
def FM_feeds : List Value → XH → XR := fun vs h => match vs with
  | [.ref a0, .int x1] => qM_feeds a0 x1 h
  | _ => none
theorem SM_feeds : XS yX9_feeds cX9_feeds 3 none (xrm 0 0) FM_feeds := by
  refine XS.of (own := RX9) (by decide) rfl (rk := 0) rfl (tM_feeds) (fun vs h r hr => ?_)
  unfold FM_feeds at hr
  split at hr
  · exact ⟨rfl, Nat.le_of_ble_eq_true rfl, hr⟩
  · cases hr
-- LineDiagramModel.append(IIIII)I
def rM_append : List (Nat × XRow) := [(0, (.aload_n 0, 1, 0, .null, [])),
  (1, (.getfield 211, 4, 211, .null, [])),
  (4, (.bipush 20, 6, 0, .int (20 : Int32), [])),
  (6, (.iadd, 7, 0, .null, [])),
  (7, (.sipush 1000, 10, 0, .int (1000 : Int32), [])),
  (10, (.if_icmp .le 5, 13, 15, .null, [])),
  (13, (.iconst (-1), 14, 0, .int (-1 : Int32), [])),
  (14, (.ireturn, 15, 0, .null, [])),
  (15, (.aload_n 0, 16, 0, .null, [])),
  (16, (.iload_n 1, 17, 1, .null, [])),
  (17, (.invokevirtual 321, 20, 321, .null, [])),
  (20, (.aload_n 0, 21, 0, .null, [])),
  (21, (.iload_n 2, 22, 2, .null, [])),
  (22, (.invokevirtual 321, 25, 321, .null, [])),
  (25, (.aload_n 0, 26, 0, .null, [])),
  (26, (.iload_n 3, 27, 3, .null, [])),
  (27, (.invokevirtual 321, 30, 321, .null, [])),
  (30, (.aload_n 0, 31, 0, .null, [])),
  (31, (.iload 4, 33, 4, .null, [])),
  (33, (.invokevirtual 321, 36, 321, .null, [])),
  (36, (.aload_n 0, 37, 0, .null, [])),
  (37, (.iload 5, 39, 5, .null, [])),
  (39, (.invokevirtual 321, 42, 321, .null, [])),
  (42, (.aload_n 0, 43, 0, .null, [])),
  (43, (.getfield 211, 46, 211, .null, [])),
  (46, (.ireturn, 47, 0, .null, []))]
def mM_append : List (Nat × XM) := [(321, (2, 0, some 9, FM_feeds))]
abbrev BM_append : XB := (rM_append, XFT_M, mM_append, 1, XST_M)
set_option maxRecDepth 100000 in
theorem kM_append : XOK BM_append cX9_append 6 RX9 1 22 := xok_of (cps := []) (K := XKT_M) (by decide +kernel) XKT_M_ok (fun _ h => absurd h List.not_mem_nil) XFT_M_ok (List.forall_mem_cons.mpr ⟨⟨_, _, _, _, _, _, _, SM_feeds, rfl, rfl, Nat.le_of_ble_eq_true rfl, Nat.le_of_ble_eq_true rfl, cdM_feeds, lkM_321, imM_feeds, slM_feeds, inM_feeds, pmM_feeds⟩, fun _ h => absurd h List.not_mem_nil⟩) XST_M_ok
def wM_append (f : Nat → Int32 → Int32 → Int32 → Int32 → Int32 → XH → XR) : List Value → List Value → XH → XR := fun vs st h => match vs, st with
  | [.ref a0, .int x1, .int x2, .int x3, .int x4, .int x5], [] => f a0 x1 x2 x3 x4 x5 h
  | _, _ => none
set_option maxRecDepth 100000 in
theorem eM_append (a0 : Nat) (x1 : Int32) (x2 : Int32) (x3 : Int32) (x4 : Int32) (x5 : Int32) (h : XH) : qM_append a0 x1 x2 x3 x4 x5 h = xrun BM_append (xfind []) 29 0 (List.zip [0, 1, 2, 3, 4, 5] [.ref a0, .int x1, .int x2, .int x3, .int x4, .int x5]) [] h := rfl
theorem tM_append : XTo cX9_append 6 RX9 1 1 22 0 [0, 1, 2, 3, 4, 5] (wM_append (qM_append)) := by
  refine XTo.run (B := BM_append) (cut := xfind []) kM_append (xcuts_ok (fun _ h => absurd h List.not_mem_nil)) 29 (fun vs st h r hr => ?_)
  unfold wM_append at hr
  split at hr
  · exact (eM_append _ _ _ _ _ _ _).symm.trans hr
  · cases hr
def FM_append : List Value → XH → XR := fun vs h => match vs with
  | [.ref a0, .int x1, .int x2, .int x3, .int x4, .int x5] => qM_append a0 x1 x2 x3 x4 x5 h
  | _ => none
theorem SM_append : XS yX9_append cX9_append 6 (some .int) (xrm 1 22) FM_append := by
  refine XS.of (own := RX9) (by decide) rfl (rk := 1) rfl (tM_append) (fun vs h r hr => ?_)
  unfold FM_append at hr
  split at hr
  · exact ⟨rfl, Nat.le_of_ble_eq_true rfl, hr⟩
  · cases hr
-- LineDiagram.truncate(I)I
def rD_truncate : List (Nat × XRow) := [(0, (.iload_n 1, 1, 1, .null, [])),
  (1, (.ifCond .lt 14, 4, 15, .null, [])),
  (4, (.iload_n 1, 5, 1, .null, [])),
  (5, (.aload_n 0, 6, 0, .null, [])),
  (6, (.getfield 10, 9, 10, .null, [])),
  (9, (.getfield 83, 12, 83, .null, [])),
  (12, (.if_icmp .le 5, 15, 17, .null, [])),
  (15, (.iconst (-1), 16, 0, .int (-1 : Int32), [])),
  (16, (.ireturn, 17, 0, .null, [])),
  (17, (.aload_n 0, 18, 0, .null, [])),
  (18, (.getfield 10, 21, 10, .null, [])),
  (21, (.dup, 22, 0, .null, [])),
  (22, (.getfield 83, 25, 83, .null, [])),
  (25, (.iload_n 1, 26, 1, .null, [])),
  (26, (.isub, 27, 0, .null, [])),
  (27, (.putfield 83, 30, 83, .null, [])),
  (30, (.aload_n 0, 31, 0, .null, [])),
  (31, (.getfield 10, 34, 10, .null, [])),
  (34, (.getfield 83, 37, 83, .null, [])),
  (37, (.ireturn, 38, 0, .null, []))]
def mD_truncate : List (Nat × XM) := []
abbrev BD_truncate : XB := (rD_truncate, XFT_D, mD_truncate, 1, XST_D)
set_option maxRecDepth 100000 in
theorem kD_truncate : XOK BD_truncate cX8_truncate 2 RX8 0 0 := xok_of (cps := []) (K := XKT_D) (by decide +kernel) XKT_D_ok (fun _ h => absurd h List.not_mem_nil) XFT_D_ok (fun _ h => absurd h List.not_mem_nil) XST_D_ok
def wD_truncate (f : Nat → Int32 → XH → XR) : List Value → List Value → XH → XR := fun vs st h => match vs, st with
  | [.ref a0, .int x1], [] => f a0 x1 h
  | _, _ => none
set_option maxRecDepth 100000 in
theorem eD_truncate (a0 : Nat) (x1 : Int32) (h : XH) : qD_truncate a0 x1 h = xrun BD_truncate (xfind []) 23 0 (List.zip [0, 1] [.ref a0, .int x1]) [] h := rfl
theorem tD_truncate : XTo cX8_truncate 2 RX8 1 0 0 0 [0, 1] (wD_truncate (qD_truncate)) := by
  refine XTo.run (B := BD_truncate) (cut := xfind []) kD_truncate (xcuts_ok (fun _ h => absurd h List.not_mem_nil)) 23 (fun vs st h r hr => ?_)
  unfold wD_truncate at hr
  split at hr
  · exact (eD_truncate _ _ _).symm.trans hr
  · cases hr
def FD_truncate : List Value → XH → XR := fun vs h => match vs with
  | [.ref a0, .int x1] => qD_truncate a0 x1 h
  | _ => none
theorem SD_truncate : XS yX8_truncate cX8_truncate 2 (some .int) (xrm 0 0) FD_truncate := by
  refine XS.of (own := RX8) (by decide) rfl (rk := 1) rfl (tD_truncate) (fun vs h r hr => ?_)
  unfold FD_truncate at hr
  split at hr
  · exact ⟨rfl, Nat.le_of_ble_eq_true rfl, hr⟩
  · cases hr
-- LineDiagramModel.in(JJJ)Z
def rM_in : List (Nat × XRow) := [(0, (.lload_n 0, 1, 0, .null, [])),
  (1, (.lload_n 2, 2, 2, .null, [])),
  (2, (.lcmp, 3, 0, .null, [])),
  (3, (.ifCond .lt 14, 6, 17, .null, [])),
  (6, (.lload_n 0, 7, 0, .null, [])),
  (7, (.lload 4, 9, 4, .null, [])),
  (9, (.lcmp, 10, 0, .null, [])),
  (10, (.ifCond .gt 7, 13, 17, .null, [])),
  (13, (.iconst 1, 14, 0, .int (1 : Int32), [])),
  (14, (.goto 4, 17, 18, .null, [])),
  (17, (.iconst 0, 18, 0, .int (0 : Int32), [])),
  (18, (.ireturn, 19, 0, .null, []))]
def mM_in : List (Nat × XM) := []
abbrev BM_in : XB := (rM_in, XFT_M, mM_in, 6, XST_M)
set_option maxRecDepth 100000 in
theorem kM_in : XOK BM_in cX9_in 6 RX9 0 0 := xok_of (cps := []) (K := XKT_M) (by decide +kernel) XKT_M_ok (fun _ h => absurd h List.not_mem_nil) XFT_M_ok (fun _ h => absurd h List.not_mem_nil) XST_M_ok
def wM_in (f : Int64 → Int64 → Int64 → XH → XR) : List Value → List Value → XH → XR := fun vs st h => match vs, st with
  | [.long l0, .long l2, .long l4], [] => f l0 l2 l4 h
  | _, _ => none
set_option maxRecDepth 100000 in
theorem eM_in (l0 : Int64) (l2 : Int64) (l4 : Int64) (h : XH) : qM_in l0 l2 l4 h = xrun BM_in (xfind []) 15 0 (List.zip [0, 2, 4] [.long l0, .long l2, .long l4]) [] h := rfl
theorem tM_in : XTo cX9_in 6 RX9 6 0 0 0 [0, 2, 4] (wM_in (qM_in)) := by
  refine XTo.run (B := BM_in) (cut := xfind []) kM_in (xcuts_ok (fun _ h => absurd h List.not_mem_nil)) 15 (fun vs st h r hr => ?_)
  unfold wM_in at hr
  split at hr
  · exact (eM_in _ _ _ _).symm.trans hr
  · cases hr
def FM_in : List Value → XH → XR := fun vs h => match vs with
  | [.long l0, .long l2, .long l4] => qM_in l0 l2 l4 h
  | _ => none
theorem SM_in : XS yX9_in cX9_in 6 (some .boolean) (xrm 0 0) FM_in := by
  refine XS.of (own := RX9) (by decide) rfl (rk := 6) rfl (tM_in) (fun vs h r hr => ?_)
  unfold FM_in at hr
  split at hr
  · exact ⟨rfl, Nat.le_of_ble_eq_true rfl, hr⟩
  · cases hr
-- LineDiagramModel.truncate(I)I
def rM_truncate : List (Nat × XRow) := [(0, (.iload_n 1, 1, 1, .null, [])),
  (1, (.i2l, 2, 0, .null, [])),
  (2, (.lconst 0, 3, 0, .long (0 : Int64), [])),
  (3, (.aload_n 0, 4, 0, .null, [])),
  (4, (.getfield 211, 7, 211, .null, [])),
  (7, (.i2l, 8, 0, .null, [])),
  (8, (.invokestatic 96, 11, 96, .null, [])),
  (11, (.ifCond .ne 5, 14, 16, .null, [])),
  (14, (.iconst (-1), 15, 0, .int (-1 : Int32), [])),
  (15, (.ireturn, 16, 0, .null, [])),
  (16, (.aload_n 0, 17, 0, .null, [])),
  (17, (.dup, 18, 0, .null, [])),
  (18, (.getfield 211, 21, 211, .null, [])),
  (21, (.iload_n 1, 22, 1, .null, [])),
  (22, (.isub, 23, 0, .null, [])),
  (23, (.putfield 211, 26, 211, .null, [])),
  (26, (.aload_n 0, 27, 0, .null, [])),
  (27, (.getfield 211, 30, 211, .null, [])),
  (30, (.ireturn, 31, 0, .null, []))]
def mM_truncate : List (Nat × XM) := [(96, (3, 1, none, FM_in))]
abbrev BM_truncate : XB := (rM_truncate, XFT_M, mM_truncate, 1, XST_M)
set_option maxRecDepth 100000 in
theorem kM_truncate : XOK BM_truncate cX9_truncate 2 RX9 1 25 := xok_of (cps := []) (K := XKT_M) (by decide +kernel) XKT_M_ok (fun _ h => absurd h List.not_mem_nil) XFT_M_ok (List.forall_mem_cons.mpr ⟨⟨_, _, _, _, _, _, SM_in, Nat.le_of_ble_eq_true rfl, Nat.le_of_ble_eq_true rfl, cdM_in, lkM_96, imM_in, inM_in, pmM_in⟩, fun _ h => absurd h List.not_mem_nil⟩) XST_M_ok
def wM_truncate (f : Nat → Int32 → XH → XR) : List Value → List Value → XH → XR := fun vs st h => match vs, st with
  | [.ref a0, .int x1], [] => f a0 x1 h
  | _, _ => none
set_option maxRecDepth 100000 in
theorem eM_truncate (a0 : Nat) (x1 : Int32) (h : XH) : qM_truncate a0 x1 h = xrun BM_truncate (xfind []) 22 0 (List.zip [0, 1] [.ref a0, .int x1]) [] h := rfl
theorem tM_truncate : XTo cX9_truncate 2 RX9 1 1 25 0 [0, 1] (wM_truncate (qM_truncate)) := by
  refine XTo.run (B := BM_truncate) (cut := xfind []) kM_truncate (xcuts_ok (fun _ h => absurd h List.not_mem_nil)) 22 (fun vs st h r hr => ?_)
  unfold wM_truncate at hr
  split at hr
  · exact (eM_truncate _ _ _).symm.trans hr
  · cases hr
def FM_truncate : List Value → XH → XR := fun vs h => match vs with
  | [.ref a0, .int x1] => qM_truncate a0 x1 h
  | _ => none
theorem SM_truncate : XS yX9_truncate cX9_truncate 2 (some .int) (xrm 1 25) FM_truncate := by
  refine XS.of (own := RX9) (by decide) rfl (rk := 1) rfl (tM_truncate) (fun vs h r hr => ?_)
  unfold FM_truncate at hr
  split at hr
  · exact ⟨rfl, Nat.le_of_ble_eq_true rfl, hr⟩
  · cases hr
-- LineDiagram$Text.byteAt(I)I
def rT_byteAt : List (Nat × XRow) := [(0, (.iload_n 1, 1, 1, .null, [])),
  (1, (.ifCond .lt 11, 4, 12, .null, [])),
  (4, (.iload_n 1, 5, 1, .null, [])),
  (5, (.aload_n 0, 6, 0, .null, [])),
  (6, (.getfield 15, 9, 15, .null, [])),
  (9, (.if_icmp .lt 7, 12, 16, .null, [])),
  (12, (.iconst (-1), 13, 0, .int (-1 : Int32), [])),
  (13, (.goto 13, 16, 26, .null, [])),
  (16, (.aload_n 0, 17, 0, .null, [])),
  (17, (.getfield 9, 20, 9, .null, [])),
  (20, (.iload_n 1, 21, 1, .null, [])),
  (21, (.baload, 22, 0, .null, [])),
  (22, (.sipush 255, 25, 0, .int (255 : Int32), [])),
  (25, (.iand, 26, 0, .null, [])),
  (26, (.ireturn, 27, 0, .null, []))]
def mT_byteAt : List (Nat × XM) := []
abbrev BT_byteAt : XB := (rT_byteAt, XFT_T, mT_byteAt, 1, XST_T)
set_option maxRecDepth 100000 in
theorem kT_byteAt : XOK BT_byteAt cX6_byteAt 2 RX6 0 0 := xok_of (cps := []) (K := XKT_T) (by decide +kernel) XKT_T_ok (fun _ h => absurd h List.not_mem_nil) XFT_T_ok (fun _ h => absurd h List.not_mem_nil) XST_T_ok
def wT_byteAt (f : Nat → Int32 → XH → XR) : List Value → List Value → XH → XR := fun vs st h => match vs, st with
  | [.ref a0, .int x1], [] => f a0 x1 h
  | _, _ => none
set_option maxRecDepth 100000 in
theorem eT_byteAt (a0 : Nat) (x1 : Int32) (h : XH) : qT_byteAt a0 x1 h = xrun BT_byteAt (xfind []) 18 0 (List.zip [0, 1] [.ref a0, .int x1]) [] h := rfl
theorem tT_byteAt : XTo cX6_byteAt 2 RX6 1 0 0 0 [0, 1] (wT_byteAt (qT_byteAt)) := by
  refine XTo.run (B := BT_byteAt) (cut := xfind []) kT_byteAt (xcuts_ok (fun _ h => absurd h List.not_mem_nil)) 18 (fun vs st h r hr => ?_)
  unfold wT_byteAt at hr
  split at hr
  · exact (eT_byteAt _ _ _).symm.trans hr
  · cases hr
def FT_byteAt : List Value → XH → XR := fun vs h => match vs with
  | [.ref a0, .int x1] => qT_byteAt a0 x1 h
  | _ => none
theorem ST_byteAt : XS yX6_byteAt cX6_byteAt 2 (some .int) (xrm 0 0) FT_byteAt := by
  refine XS.of (own := RX6) (by decide) rfl (rk := 1) rfl (tT_byteAt) (fun vs h r hr => ?_)
  unfold FT_byteAt at hr
  split at hr
  · exact ⟨rfl, Nat.le_of_ble_eq_true rfl, hr⟩
  · cases hr
-- LineDiagram$Parser.isBlank(I)Z
def rPs_isBlank : List (Nat × XRow) := [(0, (.iload_n 0, 1, 0, .null, [])),
  (1, (.bipush 32, 3, 0, .int (32 : Int32), [])),
  (3, (.if_icmp .eq 9, 6, 12, .null, [])),
  (6, (.iload_n 0, 7, 0, .null, [])),
  (7, (.bipush 10, 9, 0, .int (10 : Int32), [])),
  (9, (.if_icmp .ne 7, 12, 16, .null, [])),
  (12, (.iconst 1, 13, 0, .int (1 : Int32), [])),
  (13, (.goto 4, 16, 17, .null, [])),
  (16, (.iconst 0, 17, 0, .int (0 : Int32), [])),
  (17, (.ireturn, 18, 0, .null, []))]
def mPs_isBlank : List (Nat × XM) := []
abbrev BPs_isBlank : XB := (rPs_isBlank, XFT_Ps, mPs_isBlank, 6, XST_Ps)
set_option maxRecDepth 100000 in
theorem kPs_isBlank : XOK BPs_isBlank cX4_isBlank 1 RX4 0 0 := xok_of (cps := []) (K := XKT_Ps) (by decide +kernel) XKT_Ps_ok (fun _ h => absurd h List.not_mem_nil) XFT_Ps_ok (fun _ h => absurd h List.not_mem_nil) XST_Ps_ok
def wPs_isBlank (f : Int32 → XH → XR) : List Value → List Value → XH → XR := fun vs st h => match vs, st with
  | [.int x0], [] => f x0 h
  | _, _ => none
set_option maxRecDepth 100000 in
theorem ePs_isBlank (x0 : Int32) (h : XH) : qPs_isBlank x0 h = xrun BPs_isBlank (xfind []) 13 0 (List.zip [0] [.int x0]) [] h := rfl
theorem tPs_isBlank : XTo cX4_isBlank 1 RX4 6 0 0 0 [0] (wPs_isBlank (qPs_isBlank)) := by
  refine XTo.run (B := BPs_isBlank) (cut := xfind []) kPs_isBlank (xcuts_ok (fun _ h => absurd h List.not_mem_nil)) 13 (fun vs st h r hr => ?_)
  unfold wPs_isBlank at hr
  split at hr
  · exact (ePs_isBlank _ _).symm.trans hr
  · cases hr
def FPs_isBlank : List Value → XH → XR := fun vs h => match vs with
  | [.int x0] => qPs_isBlank x0 h
  | _ => none
theorem SPs_isBlank : XS yX4_isBlank cX4_isBlank 1 (some .boolean) (xrm 0 0) FPs_isBlank := by
  refine XS.of (own := RX4) (by decide) rfl (rk := 6) rfl (tPs_isBlank) (fun vs h r hr => ?_)
  unfold FPs_isBlank at hr
  split at hr
  · exact ⟨rfl, Nat.le_of_ble_eq_true rfl, hr⟩
  · cases hr
-- LineDiagram$Parser.isLetter(I)Z
def rPs_isLetter : List (Nat × XRow) := [(0, (.iload_n 0, 1, 0, .null, [])),
  (1, (.bipush 97, 3, 0, .int (97 : Int32), [])),
  (3, (.if_icmp .lt 13, 6, 16, .null, [])),
  (6, (.iload_n 0, 7, 0, .null, [])),
  (7, (.bipush 122, 9, 0, .int (122 : Int32), [])),
  (9, (.if_icmp .gt 7, 12, 16, .null, [])),
  (12, (.iconst 1, 13, 0, .int (1 : Int32), [])),
  (13, (.goto 4, 16, 17, .null, [])),
  (16, (.iconst 0, 17, 0, .int (0 : Int32), [])),
  (17, (.ireturn, 18, 0, .null, []))]
def mPs_isLetter : List (Nat × XM) := []
abbrev BPs_isLetter : XB := (rPs_isLetter, XFT_Ps, mPs_isLetter, 6, XST_Ps)
set_option maxRecDepth 100000 in
theorem kPs_isLetter : XOK BPs_isLetter cX4_isLetter 1 RX4 0 0 := xok_of (cps := []) (K := XKT_Ps) (by decide +kernel) XKT_Ps_ok (fun _ h => absurd h List.not_mem_nil) XFT_Ps_ok (fun _ h => absurd h List.not_mem_nil) XST_Ps_ok
def wPs_isLetter (f : Int32 → XH → XR) : List Value → List Value → XH → XR := fun vs st h => match vs, st with
  | [.int x0], [] => f x0 h
  | _, _ => none
set_option maxRecDepth 100000 in
theorem ePs_isLetter (x0 : Int32) (h : XH) : qPs_isLetter x0 h = xrun BPs_isLetter (xfind []) 13 0 (List.zip [0] [.int x0]) [] h := rfl
theorem tPs_isLetter : XTo cX4_isLetter 1 RX4 6 0 0 0 [0] (wPs_isLetter (qPs_isLetter)) := by
  refine XTo.run (B := BPs_isLetter) (cut := xfind []) kPs_isLetter (xcuts_ok (fun _ h => absurd h List.not_mem_nil)) 13 (fun vs st h r hr => ?_)
  unfold wPs_isLetter at hr
  split at hr
  · exact (ePs_isLetter _ _).symm.trans hr
  · cases hr
def FPs_isLetter : List Value → XH → XR := fun vs h => match vs with
  | [.int x0] => qPs_isLetter x0 h
  | _ => none
theorem SPs_isLetter : XS yX4_isLetter cX4_isLetter 1 (some .boolean) (xrm 0 0) FPs_isLetter := by
  refine XS.of (own := RX4) (by decide) rfl (rk := 6) rfl (tPs_isLetter) (fun vs h r hr => ?_)
  unfold FPs_isLetter at hr
  split at hr
  · exact ⟨rfl, Nat.le_of_ble_eq_true rfl, hr⟩
  · cases hr
-- LineDiagram.shiftOf(I)I
def rD_shiftOf : List (Nat × XRow) := [(0, (.bipush 25, 2, 0, .int (25 : Int32), [])),
  (2, (.iconst 5, 3, 0, .int (5 : Int32), [])),
  (3, (.iload_n 0, 4, 0, .null, [])),
  (4, (.imul, 5, 0, .null, [])),
  (5, (.isub, 6, 0, .null, [])),
  (6, (.ireturn, 7, 0, .null, []))]
def mD_shiftOf : List (Nat × XM) := []
abbrev BD_shiftOf : XB := (rD_shiftOf, XFT_D, mD_shiftOf, 1, XST_D)
set_option maxRecDepth 100000 in
theorem kD_shiftOf : XOK BD_shiftOf cX8_shiftOf 1 RX8 0 0 := xok_of (cps := []) (K := XKT_D) (by decide +kernel) XKT_D_ok (fun _ h => absurd h List.not_mem_nil) XFT_D_ok (fun _ h => absurd h List.not_mem_nil) XST_D_ok
def wD_shiftOf (f : Int32 → XH → XR) : List Value → List Value → XH → XR := fun vs st h => match vs, st with
  | [.int x0], [] => f x0 h
  | _, _ => none
set_option maxRecDepth 100000 in
theorem eD_shiftOf (x0 : Int32) (h : XH) : qD_shiftOf x0 h = xrun BD_shiftOf (xfind []) 9 0 (List.zip [0] [.int x0]) [] h := rfl
theorem tD_shiftOf : XTo cX8_shiftOf 1 RX8 1 0 0 0 [0] (wD_shiftOf (qD_shiftOf)) := by
  refine XTo.run (B := BD_shiftOf) (cut := xfind []) kD_shiftOf (xcuts_ok (fun _ h => absurd h List.not_mem_nil)) 9 (fun vs st h r hr => ?_)
  unfold wD_shiftOf at hr
  split at hr
  · exact (eD_shiftOf _ _).symm.trans hr
  · cases hr
def FD_shiftOf : List Value → XH → XR := fun vs h => match vs with
  | [.int x0] => qD_shiftOf x0 h
  | _ => none
theorem SD_shiftOf : XS yX8_shiftOf cX8_shiftOf 1 (some .int) (xrm 0 0) FD_shiftOf := by
  refine XS.of (own := RX8) (by decide) rfl (rk := 1) rfl (tD_shiftOf) (fun vs h r hr => ?_)
  unfold FD_shiftOf at hr
  split at hr
  · exact ⟨rfl, Nat.le_of_ble_eq_true rfl, hr⟩
  · cases hr
