-- LineDiagramModel.empties()V
def rM_empties : List (Nat × XRow) := [(0, (.iconst 0, 1, 0, .int (0 : Int32), [])),
  (1, (.istore_n 1, 2, 1, .null, [])),
  (2, (.iload_n 1, 3, 1, .null, [])),
  (3, (.sipush 1784, 6, 0, .int (1784 : Int32), [])),
  (6, (.if_icmp .ge 28, 9, 34, .null, [])),
  (9, (.aload_n 0, 10, 0, .null, [])),
  (10, (.getfield 21, 13, 21, .null, [])),
  (13, (.iload_n 1, 14, 1, .null, [])),
  (14, (.iload_n 1, 15, 1, .null, [])),
  (15, (.sipush 184, 18, 0, .int (184 : Int32), [])),
  (18, (.if_icmp .ge 7, 21, 25, .null, [])),
  (21, (.iconst 0, 22, 0, .int (0 : Int32), [])),
  (22, (.goto 5, 25, 27, .null, [])),
  (25, (.bipush (-2), 27, 0, .int (-2 : Int32), [])),
  (27, (.iastore, 28, 0, .null, [])),
  (28, (.iinc 1 1, 31, 1, .int (1 : Int32), [])),
  (31, (.goto (-29), 34, 2, .null, [])),
  (34, (.aload_n 0, 35, 0, .null, [])),
  (35, (.getfield 33, 38, 33, .null, [])),
  (38, (.iconst 0, 39, 0, .int (0 : Int32), [])),
  (39, (.iconst 0, 40, 0, .int (0 : Int32), [])),
  (40, (.bastore, 41, 0, .null, [])),
  (41, (.aload_n 0, 42, 0, .null, [])),
  (42, (.getfield 33, 45, 33, .null, [])),
  (45, (.iconst 1, 46, 0, .int (1 : Int32), [])),
  (46, (.iconst 0, 47, 0, .int (0 : Int32), [])),
  (47, (.bastore, 48, 0, .null, [])),
  (48, (.aload_n 0, 49, 0, .null, [])),
  (49, (.iconst 0, 50, 0, .int (0 : Int32), [])),
  (50, (.putfield 85, 53, 85, .null, [])),
  (53, (.return_, 54, 0, .null, []))]
def mM_empties : List (Nat × XM) := []
abbrev BM_empties : XB := (rM_empties, XFT_M, mM_empties, 0, XST_M)
set_option maxRecDepth 100000 in
theorem kM_empties : XOK BM_empties cX9_empties 2 RX9 0 0 := xok_of (cps := []) (K := XKT_M) (by decide +kernel) XKT_M_ok (fun _ h => absurd h List.not_mem_nil) XFT_M_ok (fun _ h => absurd h List.not_mem_nil) XST_M_ok
def wM_empties_27 (f : Nat → Int32 → Int32 → Int32 → Nat → XH → XR) : List Value → List Value → XH → XR := fun vs st h => match vs, st with
  | [.ref a0, .int x1], [.int s0, .int s1, .ref s2] => f a0 x1 s0 s1 s2 h
  | _, _ => none
def wM_empties_34 (f : Nat → XH → XR) : List Value → List Value → XH → XR := fun vs st h => match vs, st with
  | [.ref a0], [] => f a0 h
  | _, _ => none
def wM_empties_2 (f : Nat → Int32 → XH → XR) : List Value → List Value → XH → XR := fun vs st h => match vs, st with
  | [.ref a0, .int x1], [] => f a0 x1 h
  | _, _ => none
def wM_empties (f : Nat → XH → XR) : List Value → List Value → XH → XR := fun vs st h => match vs, st with
  | [.ref a0], [] => f a0 h
  | _, _ => none
set_option maxRecDepth 100000 in
theorem eM_empties_27 (k2 : Nat → Int32 → XH → XR) (a0 : Nat) (x1 : Int32) (s0 : Int32) (s1 : Int32) (s2 : Nat) (h : XH) : qM_empties_27 k2 a0 x1 s0 s1 s2 h = xrun BM_empties (xfind [(2, ([0, 1], wM_empties_2 (k2)))]) 34 27 (List.zip [0, 1] [.ref a0, .int x1]) [.int s0, .int s1, .ref s2] h := rfl
theorem tM_empties_27 {k2 : Nat → Int32 → XH → XR} (hk2 : XTo cX9_empties 2 RX9 0 0 0 2 [0, 1] (wM_empties_2 k2)) : XTo cX9_empties 2 RX9 0 0 0 27 [0, 1] (wM_empties_27 (qM_empties_27 k2)) := by
  refine XTo.run (B := BM_empties) (cut := xfind [(2, ([0, 1], wM_empties_2 (k2)))]) kM_empties (xcuts_ok (List.forall_mem_cons.mpr ⟨hk2, fun _ h => absurd h List.not_mem_nil⟩)) 34 (fun vs st h r hr => ?_)
  unfold wM_empties_27 at hr
  split at hr
  · exact (eM_empties_27 k2 _ _ _ _ _ _).symm.trans hr
  · cases hr
set_option maxRecDepth 100000 in
theorem eM_empties_34 (a0 : Nat) (h : XH) : qM_empties_34 a0 h = xrun BM_empties (xfind []) 34 34 (List.zip [0] [.ref a0]) [] h := rfl
theorem tM_empties_34 : XTo cX9_empties 2 RX9 0 0 0 34 [0] (wM_empties_34 (qM_empties_34)) := by
  refine XTo.run (B := BM_empties) (cut := xfind []) kM_empties (xcuts_ok (fun _ h => absurd h List.not_mem_nil)) 34 (fun vs st h r hr => ?_)
  unfold wM_empties_34 at hr
  split at hr
  · exact (eM_empties_34 _ _).symm.trans hr
  · cases hr
set_option maxRecDepth 100000 in
theorem eM_empties_2_b (k2 : Nat → Int32 → XH → XR) (a0 : Nat) (x1 : Int32) (h : XH) : qM_empties_2_b k2 a0 x1 h = xrun BM_empties (xfind [(27, ([0, 1], wM_empties_27 (qM_empties_27 k2))), (34, ([0], wM_empties_34 (qM_empties_34)))]) 34 2 (List.zip [0, 1] [.ref a0, .int x1]) [] h := rfl
theorem tM_empties_2_b {k2 : Nat → Int32 → XH → XR} (hk2 : XTo cX9_empties 2 RX9 0 0 0 2 [0, 1] (wM_empties_2 k2)) : XTo cX9_empties 2 RX9 0 0 0 2 [0, 1] (wM_empties_2 (qM_empties_2_b k2)) := by
  refine XTo.run (B := BM_empties) (cut := xfind [(27, ([0, 1], wM_empties_27 (qM_empties_27 k2))), (34, ([0], wM_empties_34 (qM_empties_34)))]) kM_empties (xcuts_ok (List.forall_mem_cons.mpr ⟨tM_empties_27 hk2, List.forall_mem_cons.mpr ⟨tM_empties_34, fun _ h => absurd h List.not_mem_nil⟩⟩)) 34 (fun vs st h r hr => ?_)
  unfold wM_empties_2 at hr
  split at hr
  · exact (eM_empties_2_b k2 _ _ _).symm.trans hr
  · cases hr
theorem tM_empties_2 : ∀ n : Nat, XTo cX9_empties 2 RX9 0 0 0 2 [0, 1] (wM_empties_2 (qM_empties_2 n)) := by
  intro n
  induction n with
  | zero =>
    refine XTo.none fun vs st h => ?_
    unfold wM_empties_2
    split <;> rfl
  | succ n ih => exact tM_empties_2_b  ih
set_option maxRecDepth 100000 in
theorem eM_empties (a0 : Nat) (h : XH) : qM_empties a0 h = xrun BM_empties (xfind [(2, ([0, 1], wM_empties_2 (qM_empties_2 LF)))]) 34 0 (List.zip [0] [.ref a0]) [] h := rfl
theorem tM_empties : XTo cX9_empties 2 RX9 0 0 0 0 [0] (wM_empties (qM_empties)) := by
  refine XTo.run (B := BM_empties) (cut := xfind [(2, ([0, 1], wM_empties_2 (qM_empties_2 LF)))]) kM_empties (xcuts_ok (List.forall_mem_cons.mpr ⟨tM_empties_2 LF, fun _ h => absurd h List.not_mem_nil⟩)) 34 (fun vs st h r hr => ?_)
  unfold wM_empties at hr
  split at hr
  · exact (eM_empties _ _).symm.trans hr
  · cases hr
def FM_empties : List Value → XH → XR := fun vs h => match vs with
  | [.ref a0] => qM_empties a0 h
  | _ => none
theorem SM_empties : XS yX9_empties cX9_empties 2 none (xrm 0 0) FM_empties := by
  refine XS.of (own := RX9) (by decide) rfl (rk := 0) rfl (tM_empties) (fun vs h r hr => ?_)
  unfold FM_empties at hr
  split at hr
  · exact ⟨rfl, Nat.le_of_ble_eq_true rfl, hr⟩
  · cases hr
-- LineDiagramModel.isByte(II)Z
def rM_isByte : List (Nat × XRow) := [(0, (.aload_n 0, 1, 0, .null, [])),
  (1, (.getfield 208, 4, 208, .null, [])),
  (4, (.aload_n 0, 5, 0, .null, [])),
  (5, (.getfield 211, 8, 211, .null, [])),
  (8, (.if_icmp .ge 33, 11, 41, .null, [])),
  (11, (.aload_n 0, 12, 0, .null, [])),
  (12, (.getfield 7, 15, 7, .null, [])),
  (15, (.aload_n 0, 16, 0, .null, [])),
  (16, (.getfield 208, 19, 208, .null, [])),
  (19, (.baload, 20, 0, .null, [])),
  (20, (.iload_n 1, 21, 1, .null, [])),
  (21, (.if_icmp .lt 20, 24, 41, .null, [])),
  (24, (.aload_n 0, 25, 0, .null, [])),
  (25, (.getfield 7, 28, 7, .null, [])),
  (28, (.aload_n 0, 29, 0, .null, [])),
  (29, (.getfield 208, 32, 208, .null, [])),
  (32, (.baload, 33, 0, .null, [])),
  (33, (.iload_n 2, 34, 2, .null, [])),
  (34, (.if_icmp .gt 7, 37, 41, .null, [])),
  (37, (.iconst 1, 38, 0, .int (1 : Int32), [])),
  (38, (.goto 4, 41, 42, .null, [])),
  (41, (.iconst 0, 42, 0, .int (0 : Int32), [])),
  (42, (.ireturn, 43, 0, .null, []))]
def mM_isByte : List (Nat × XM) := []
abbrev BM_isByte : XB := (rM_isByte, XFT_M, mM_isByte, 6, XST_M)
set_option maxRecDepth 100000 in
theorem kM_isByte : XOK BM_isByte cX9_isByte 3 RX9 0 0 := xok_of (cps := []) (K := XKT_M) (by decide +kernel) XKT_M_ok (fun _ h => absurd h List.not_mem_nil) XFT_M_ok (fun _ h => absurd h List.not_mem_nil) XST_M_ok
def wM_isByte (f : Nat → Int32 → Int32 → XH → XR) : List Value → List Value → XH → XR := fun vs st h => match vs, st with
  | [.ref a0, .int x1, .int x2], [] => f a0 x1 x2 h
  | _, _ => none
set_option maxRecDepth 100000 in
theorem eM_isByte (a0 : Nat) (x1 : Int32) (x2 : Int32) (h : XH) : qM_isByte a0 x1 x2 h = xrun BM_isByte (xfind []) 26 0 (List.zip [0, 1, 2] [.ref a0, .int x1, .int x2]) [] h := rfl
theorem tM_isByte : XTo cX9_isByte 3 RX9 6 0 0 0 [0, 1, 2] (wM_isByte (qM_isByte)) := by
  refine XTo.run (B := BM_isByte) (cut := xfind []) kM_isByte (xcuts_ok (fun _ h => absurd h List.not_mem_nil)) 26 (fun vs st h r hr => ?_)
  unfold wM_isByte at hr
  split at hr
  · exact (eM_isByte _ _ _ _).symm.trans hr
  · cases hr
def FM_isByte : List Value → XH → XR := fun vs h => match vs with
  | [.ref a0, .int x1, .int x2] => qM_isByte a0 x1 x2 h
  | _ => none
theorem SM_isByte : XS yX9_isByte cX9_isByte 3 (some .boolean) (xrm 0 0) FM_isByte := by
  refine XS.of (own := RX9) (by decide) rfl (rk := 6) rfl (tM_isByte) (fun vs h r hr => ?_)
  unfold FM_isByte at hr
  split at hr
  · exact ⟨rfl, Nat.le_of_ble_eq_true rfl, hr⟩
  · cases hr
-- LineDiagramModel.isKey(J)Z
def rM_isKey : List (Nat × XRow) := [(0, (.lload_n 0, 1, 0, .null, [])),
  (1, (.ldc2_w 214, 4, 214, .long (2590276 : Int64), [])),
  (4, (.lcmp, 5, 0, .null, [])),
  (5, (.ifCond .eq 43, 8, 48, .null, [])),
  (8, (.lload_n 0, 9, 0, .null, [])),
  (9, (.ldc2_w 216, 12, 216, .long (677454 : Int64), [])),
  (12, (.lcmp, 13, 0, .null, [])),
  (13, (.ifCond .eq 35, 16, 48, .null, [])),
  (16, (.lload_n 0, 17, 0, .null, [])),
  (17, (.ldc2_w 218, 20, 218, .long (402885 : Int64), [])),
  (20, (.lcmp, 21, 0, .null, [])),
  (21, (.ifCond .eq 27, 24, 48, .null, [])),
  (24, (.lload_n 0, 25, 0, .null, [])),
  (25, (.ldc2_w 220, 28, 220, .long (632645 : Int64), [])),
  (28, (.lcmp, 29, 0, .null, [])),
  (29, (.ifCond .eq 19, 32, 48, .null, [])),
  (32, (.lload_n 0, 33, 0, .null, [])),
  (33, (.ldc2_w 222, 36, 222, .long (20594195 : Int64), [])),
  (36, (.lcmp, 37, 0, .null, [])),
  (37, (.ifCond .eq 11, 40, 48, .null, [])),
  (40, (.lload_n 0, 41, 0, .null, [])),
  (41, (.ldc2_w 224, 44, 224, .long (52 : Int64), [])),
  (44, (.lcmp, 45, 0, .null, [])),
  (45, (.ifCond .ne 7, 48, 52, .null, [])),
  (48, (.iconst 1, 49, 0, .int (1 : Int32), [])),
  (49, (.goto 4, 52, 53, .null, [])),
  (52, (.iconst 0, 53, 0, .int (0 : Int32), [])),
  (53, (.ireturn, 54, 0, .null, []))]
def mM_isKey : List (Nat × XM) := []
abbrev BM_isKey : XB := (rM_isKey, XFT_M, mM_isKey, 6, XST_M)
set_option maxRecDepth 100000 in
theorem kM_isKey : XOK BM_isKey cX9_isKey 2 RX9 0 0 := xok_of (cps := []) (K := XKT_M) (by decide +kernel) XKT_M_ok (fun _ h => absurd h List.not_mem_nil) XFT_M_ok (fun _ h => absurd h List.not_mem_nil) XST_M_ok
def wM_isKey (f : Int64 → XH → XR) : List Value → List Value → XH → XR := fun vs st h => match vs, st with
  | [.long l0], [] => f l0 h
  | _, _ => none
set_option maxRecDepth 100000 in
theorem eM_isKey (l0 : Int64) (h : XH) : qM_isKey l0 h = xrun BM_isKey (xfind []) 31 0 (List.zip [0] [.long l0]) [] h := rfl
theorem tM_isKey : XTo cX9_isKey 2 RX9 6 0 0 0 [0] (wM_isKey (qM_isKey)) := by
  refine XTo.run (B := BM_isKey) (cut := xfind []) kM_isKey (xcuts_ok (fun _ h => absurd h List.not_mem_nil)) 31 (fun vs st h r hr => ?_)
  unfold wM_isKey at hr
  split at hr
  · exact (eM_isKey _ _).symm.trans hr
  · cases hr
def FM_isKey : List Value → XH → XR := fun vs h => match vs with
  | [.long l0] => qM_isKey l0 h
  | _ => none
theorem SM_isKey : XS yX9_isKey cX9_isKey 2 (some .boolean) (xrm 0 0) FM_isKey := by
  refine XS.of (own := RX9) (by decide) rfl (rk := 6) rfl (tM_isKey) (fun vs h r hr => ?_)
  unfold FM_isKey at hr
  split at hr
  · exact ⟨rfl, Nat.le_of_ble_eq_true rfl, hr⟩
  · cases hr
-- LineDiagramModel.takesLetters()V
def rM_takesLetters : List (Nat × XRow) := [(0, (.aload_n 0, 1, 0, .null, [])),
  (1, (.lconst 0, 2, 0, .long (0 : Int64), [])),
  (2, (.putfield 226, 5, 226, .null, [])),
  (5, (.aload_n 0, 6, 0, .null, [])),
  (6, (.iconst 0, 7, 0, .int (0 : Int32), [])),
  (7, (.putfield 230, 10, 230, .null, [])),
  (10, (.aload_n 0, 11, 0, .null, [])),
  (11, (.bipush 97, 13, 0, .int (97 : Int32), [])),
  (13, (.bipush 122, 15, 0, .int (122 : Int32), [])),
  (15, (.invokevirtual 233, 18, 233, .null, [])),
  (18, (.ifCond .eq 91, 21, 109, .null, [])),
  (21, (.aload_n 0, 22, 0, .null, [])),
  (22, (.getfield 208, 25, 208, .null, [])),
  (25, (.aload_n 0, 26, 0, .null, [])),
  (26, (.getfield 236, 29, 236, .null, [])),
  (29, (.isub, 30, 0, .null, [])),
  (30, (.istore_n 1, 31, 1, .null, [])),
  (31, (.aload_n 0, 32, 0, .null, [])),
  (32, (.getfield 7, 35, 7, .null, [])),
  (35, (.aload_n 0, 36, 0, .null, [])),
  (36, (.getfield 208, 39, 208, .null, [])),
  (39, (.baload, 40, 0, .null, [])),
  (40, (.bipush 96, 42, 0, .int (96 : Int32), [])),
  (42, (.isub, 43, 0, .null, [])),
  (43, (.istore_n 2, 44, 2, .null, [])),
  (44, (.aload_n 0, 45, 0, .null, [])),
  (45, (.dup, 46, 0, .null, [])),
  (46, (.getfield 230, 49, 230, .null, [])),
  (49, (.iload_n 1, 50, 1, .null, [])),
  (50, (.bipush 6, 52, 0, .int (6 : Int32), [])),
  (52, (.if_icmp .ge 14, 55, 66, .null, [])),
  (55, (.iload_n 2, 56, 2, .null, [])),
  (56, (.bipush 25, 58, 0, .int (25 : Int32), [])),
  (58, (.iconst 5, 59, 0, .int (5 : Int32), [])),
  (59, (.iload_n 1, 60, 1, .null, [])),
  (60, (.imul, 61, 0, .null, [])),
  (61, (.isub, 62, 0, .null, [])),
  (62, (.ishl, 63, 0, .null, [])),
  (63, (.goto 4, 66, 67, .null, [])),
  (66, (.iconst 0, 67, 0, .int (0 : Int32), [])),
  (67, (.ior, 68, 0, .null, [])),
  (68, (.putfield 230, 71, 230, .null, [])),
  (71, (.aload_n 0, 72, 0, .null, [])),
  (72, (.iload_n 1, 73, 1, .null, [])),
  (73, (.bipush 8, 75, 0, .int (8 : Int32), [])),
  (75, (.if_icmp .ge 17, 78, 92, .null, [])),
  (78, (.ldc2_w 239, 81, 239, .long (32 : Int64), [])),
  (81, (.aload_n 0, 82, 0, .null, [])),
  (82, (.getfield 226, 85, 226, .null, [])),
  (85, (.lmul, 86, 0, .null, [])),
  (86, (.iload_n 2, 87, 2, .null, [])),
  (87, (.i2l, 88, 0, .null, [])),
  (88, (.ladd, 89, 0, .null, [])),
  (89, (.goto 4, 92, 93, .null, [])),
  (92, (.lconst 0, 93, 0, .long (0 : Int64), [])),
  (93, (.putfield 226, 96, 226, .null, [])),
  (96, (.aload_n 0, 97, 0, .null, [])),
  (97, (.dup, 98, 0, .null, [])),
  (98, (.getfield 208, 101, 208, .null, [])),
  (101, (.iconst 1, 102, 0, .int (1 : Int32), [])),
  (102, (.iadd, 103, 0, .null, [])),
  (103, (.putfield 208, 106, 208, .null, [])),
  (106, (.goto (-96), 109, 10, .null, [])),
  (109, (.aload_n 0, 110, 0, .null, [])),
  (110, (.aload_n 0, 111, 0, .null, [])),
  (111, (.getfield 208, 114, 208, .null, [])),
  (114, (.aload_n 0, 115, 0, .null, [])),
  (115, (.getfield 236, 118, 236, .null, [])),
  (118, (.isub, 119, 0, .null, [])),
  (119, (.bipush 9, 121, 0, .int (9 : Int32), [])),
  (121, (.if_icmp .ge 17, 124, 138, .null, [])),
  (124, (.aload_n 0, 125, 0, .null, [])),
  (125, (.getfield 226, 128, 226, .null, [])),
  (128, (.invokestatic 241, 131, 241, .null, [])),
  (131, (.ifCond .eq 7, 134, 138, .null, [])),
  (134, (.iconst 2, 135, 0, .int (2 : Int32), [])),
  (135, (.goto 22, 138, 157, .null, [])),
  (138, (.aload_n 0, 139, 0, .null, [])),
  (139, (.getfield 208, 142, 208, .null, [])),
  (142, (.aload_n 0, 143, 0, .null, [])),
  (143, (.getfield 236, 146, 236, .null, [])),
  (146, (.isub, 147, 0, .null, [])),
  (147, (.bipush 7, 149, 0, .int (7 : Int32), [])),
  (149, (.if_icmp .ge 7, 152, 156, .null, [])),
  (152, (.iconst 1, 153, 0, .int (1 : Int32), [])),
  (153, (.goto 4, 156, 157, .null, [])),
  (156, (.iconst 5, 157, 0, .int (5 : Int32), [])),
  (157, (.putfield 245, 160, 245, .null, [])),
  (160, (.return_, 161, 0, .null, []))]
def mM_takesLetters : List (Nat × XM) := [(233, (3, 1, some 9, FM_isByte)), (241, (1, 1, none, FM_isKey))]
abbrev BM_takesLetters : XB := (rM_takesLetters, XFT_M, mM_takesLetters, 0, XST_M)
set_option maxRecDepth 100000 in
theorem kM_takesLetters : XOK BM_takesLetters cX9_takesLetters 3 RX9 1 22 := xok_of (cps := []) (K := XKT_M) (by decide +kernel) XKT_M_ok (fun _ h => absurd h List.not_mem_nil) XFT_M_ok (List.forall_mem_cons.mpr ⟨⟨_, _, _, _, _, _, _, SM_isByte, rfl, rfl, Nat.le_of_ble_eq_true rfl, Nat.le_of_ble_eq_true rfl, cdM_isByte, lkM_233, imM_isByte, slM_isByte, inM_isByte, pmM_isByte⟩, List.forall_mem_cons.mpr ⟨⟨_, _, _, _, _, _, SM_isKey, Nat.le_of_ble_eq_true rfl, Nat.le_of_ble_eq_true rfl, cdM_isKey, lkM_241, imM_isKey, inM_isKey, pmM_isKey⟩, fun _ h => absurd h List.not_mem_nil⟩⟩) XST_M_ok
def wM_takesLetters_93 (f : Nat → Int64 → Nat → XH → XR) : List Value → List Value → XH → XR := fun vs st h => match vs, st with
  | [.ref a0], [.long s0, .ref s1] => f a0 s0 s1 h
  | _, _ => none
def wM_takesLetters_67 (f : Nat → Int32 → Int32 → Int32 → Int32 → Nat → XH → XR) : List Value → List Value → XH → XR := fun vs st h => match vs, st with
  | [.ref a0, .int x1, .int x2], [.int s0, .int s1, .ref s2] => f a0 x1 x2 s0 s1 s2 h
  | _, _ => none
def wM_takesLetters_157 (f : Int32 → Nat → XH → XR) : List Value → List Value → XH → XR := fun vs st h => match vs, st with
  | [], [.int s0, .ref s1] => f s0 s1 h
  | _, _ => none
def wM_takesLetters_138 (f : Nat → Nat → XH → XR) : List Value → List Value → XH → XR := fun vs st h => match vs, st with
  | [.ref a0], [.ref s0] => f a0 s0 h
  | _, _ => none
def wM_takesLetters_109 (f : Nat → XH → XR) : List Value → List Value → XH → XR := fun vs st h => match vs, st with
  | [.ref a0], [] => f a0 h
  | _, _ => none
def wM_takesLetters_10 (f : Nat → XH → XR) : List Value → List Value → XH → XR := fun vs st h => match vs, st with
  | [.ref a0], [] => f a0 h
  | _, _ => none
def wM_takesLetters (f : Nat → XH → XR) : List Value → List Value → XH → XR := fun vs st h => match vs, st with
  | [.ref a0], [] => f a0 h
  | _, _ => none
set_option maxRecDepth 100000 in
theorem eM_takesLetters_93 (k10 : Nat → XH → XR) (a0 : Nat) (s0 : Int64) (s1 : Nat) (h : XH) : qM_takesLetters_93 k10 a0 s0 s1 h = xrun BM_takesLetters (xfind [(10, ([0], wM_takesLetters_10 (k10)))]) 92 93 (List.zip [0] [.ref a0]) [.long s0, .ref s1] h := rfl
theorem tM_takesLetters_93 {k10 : Nat → XH → XR} (hk10 : XTo cX9_takesLetters 3 RX9 0 1 22 10 [0] (wM_takesLetters_10 k10)) : XTo cX9_takesLetters 3 RX9 0 1 22 93 [0] (wM_takesLetters_93 (qM_takesLetters_93 k10)) := by
  refine XTo.run (B := BM_takesLetters) (cut := xfind [(10, ([0], wM_takesLetters_10 (k10)))]) kM_takesLetters (xcuts_ok (List.forall_mem_cons.mpr ⟨hk10, fun _ h => absurd h List.not_mem_nil⟩)) 92 (fun vs st h r hr => ?_)
  unfold wM_takesLetters_93 at hr
  split at hr
  · exact (eM_takesLetters_93 k10 _ _ _ _).symm.trans hr
  · cases hr
set_option maxRecDepth 100000 in
theorem eM_takesLetters_67 (k10 : Nat → XH → XR) (a0 : Nat) (x1 : Int32) (x2 : Int32) (s0 : Int32) (s1 : Int32) (s2 : Nat) (h : XH) : qM_takesLetters_67 k10 a0 x1 x2 s0 s1 s2 h = xrun BM_takesLetters (xfind [(93, ([0], wM_takesLetters_93 (qM_takesLetters_93 k10)))]) 92 67 (List.zip [0, 1, 2] [.ref a0, .int x1, .int x2]) [.int s0, .int s1, .ref s2] h := rfl
theorem tM_takesLetters_67 {k10 : Nat → XH → XR} (hk10 : XTo cX9_takesLetters 3 RX9 0 1 22 10 [0] (wM_takesLetters_10 k10)) : XTo cX9_takesLetters 3 RX9 0 1 22 67 [0, 1, 2] (wM_takesLetters_67 (qM_takesLetters_67 k10)) := by
  refine XTo.run (B := BM_takesLetters) (cut := xfind [(93, ([0], wM_takesLetters_93 (qM_takesLetters_93 k10)))]) kM_takesLetters (xcuts_ok (List.forall_mem_cons.mpr ⟨tM_takesLetters_93 hk10, fun _ h => absurd h List.not_mem_nil⟩)) 92 (fun vs st h r hr => ?_)
  unfold wM_takesLetters_67 at hr
  split at hr
  · exact (eM_takesLetters_67 k10 _ _ _ _ _ _ _).symm.trans hr
  · cases hr
set_option maxRecDepth 100000 in
theorem eM_takesLetters_157 (s0 : Int32) (s1 : Nat) (h : XH) : qM_takesLetters_157 s0 s1 h = xrun BM_takesLetters (xfind []) 92 157 (List.zip [] []) [.int s0, .ref s1] h := rfl
theorem tM_takesLetters_157 : XTo cX9_takesLetters 3 RX9 0 1 22 157 [] (wM_takesLetters_157 (qM_takesLetters_157)) := by
  refine XTo.run (B := BM_takesLetters) (cut := xfind []) kM_takesLetters (xcuts_ok (fun _ h => absurd h List.not_mem_nil)) 92 (fun vs st h r hr => ?_)
  unfold wM_takesLetters_157 at hr
  split at hr
  · exact (eM_takesLetters_157 _ _ _).symm.trans hr
  · cases hr
set_option maxRecDepth 100000 in
theorem eM_takesLetters_138 (a0 : Nat) (s0 : Nat) (h : XH) : qM_takesLetters_138 a0 s0 h = xrun BM_takesLetters (xfind [(157, ([], wM_takesLetters_157 (qM_takesLetters_157)))]) 92 138 (List.zip [0] [.ref a0]) [.ref s0] h := rfl
theorem tM_takesLetters_138 : XTo cX9_takesLetters 3 RX9 0 1 22 138 [0] (wM_takesLetters_138 (qM_takesLetters_138)) := by
  refine XTo.run (B := BM_takesLetters) (cut := xfind [(157, ([], wM_takesLetters_157 (qM_takesLetters_157)))]) kM_takesLetters (xcuts_ok (List.forall_mem_cons.mpr ⟨tM_takesLetters_157, fun _ h => absurd h List.not_mem_nil⟩)) 92 (fun vs st h r hr => ?_)
  unfold wM_takesLetters_138 at hr
  split at hr
  · exact (eM_takesLetters_138 _ _ _).symm.trans hr
  · cases hr
set_option maxRecDepth 100000 in
theorem eM_takesLetters_109 (a0 : Nat) (h : XH) : qM_takesLetters_109 a0 h = xrun BM_takesLetters (xfind [(138, ([0], wM_takesLetters_138 (qM_takesLetters_138))), (157, ([], wM_takesLetters_157 (qM_takesLetters_157)))]) 92 109 (List.zip [0] [.ref a0]) [] h := rfl
theorem tM_takesLetters_109 : XTo cX9_takesLetters 3 RX9 0 1 22 109 [0] (wM_takesLetters_109 (qM_takesLetters_109)) := by
  refine XTo.run (B := BM_takesLetters) (cut := xfind [(138, ([0], wM_takesLetters_138 (qM_takesLetters_138))), (157, ([], wM_takesLetters_157 (qM_takesLetters_157)))]) kM_takesLetters (xcuts_ok (List.forall_mem_cons.mpr ⟨tM_takesLetters_138, List.forall_mem_cons.mpr ⟨tM_takesLetters_157, fun _ h => absurd h List.not_mem_nil⟩⟩)) 92 (fun vs st h r hr => ?_)
  unfold wM_takesLetters_109 at hr
  split at hr
  · exact (eM_takesLetters_109 _ _).symm.trans hr
  · cases hr
set_option maxRecDepth 100000 in
theorem eM_takesLetters_10_b (k10 : Nat → XH → XR) (a0 : Nat) (h : XH) : qM_takesLetters_10_b k10 a0 h = xrun BM_takesLetters (xfind [(67, ([0, 1, 2], wM_takesLetters_67 (qM_takesLetters_67 k10))), (109, ([0], wM_takesLetters_109 (qM_takesLetters_109)))]) 92 10 (List.zip [0] [.ref a0]) [] h := rfl
theorem tM_takesLetters_10_b {k10 : Nat → XH → XR} (hk10 : XTo cX9_takesLetters 3 RX9 0 1 22 10 [0] (wM_takesLetters_10 k10)) : XTo cX9_takesLetters 3 RX9 0 1 22 10 [0] (wM_takesLetters_10 (qM_takesLetters_10_b k10)) := by
  refine XTo.run (B := BM_takesLetters) (cut := xfind [(67, ([0, 1, 2], wM_takesLetters_67 (qM_takesLetters_67 k10))), (109, ([0], wM_takesLetters_109 (qM_takesLetters_109)))]) kM_takesLetters (xcuts_ok (List.forall_mem_cons.mpr ⟨tM_takesLetters_67 hk10, List.forall_mem_cons.mpr ⟨tM_takesLetters_109, fun _ h => absurd h List.not_mem_nil⟩⟩)) 92 (fun vs st h r hr => ?_)
  unfold wM_takesLetters_10 at hr
  split at hr
  · exact (eM_takesLetters_10_b k10 _ _).symm.trans hr
  · cases hr
theorem tM_takesLetters_10 : ∀ n : Nat, XTo cX9_takesLetters 3 RX9 0 1 22 10 [0] (wM_takesLetters_10 (qM_takesLetters_10 n)) := by
  intro n
  induction n with
  | zero =>
    refine XTo.none fun vs st h => ?_
    unfold wM_takesLetters_10
    split <;> rfl
  | succ n ih => exact tM_takesLetters_10_b  ih
set_option maxRecDepth 100000 in
theorem eM_takesLetters (a0 : Nat) (h : XH) : qM_takesLetters a0 h = xrun BM_takesLetters (xfind [(10, ([0], wM_takesLetters_10 (qM_takesLetters_10 LF)))]) 92 0 (List.zip [0] [.ref a0]) [] h := rfl
theorem tM_takesLetters : XTo cX9_takesLetters 3 RX9 0 1 22 0 [0] (wM_takesLetters (qM_takesLetters)) := by
  refine XTo.run (B := BM_takesLetters) (cut := xfind [(10, ([0], wM_takesLetters_10 (qM_takesLetters_10 LF)))]) kM_takesLetters (xcuts_ok (List.forall_mem_cons.mpr ⟨tM_takesLetters_10 LF, fun _ h => absurd h List.not_mem_nil⟩)) 92 (fun vs st h r hr => ?_)
  unfold wM_takesLetters at hr
  split at hr
  · exact (eM_takesLetters _ _).symm.trans hr
  · cases hr
def FM_takesLetters : List Value → XH → XR := fun vs h => match vs with
  | [.ref a0] => qM_takesLetters a0 h
  | _ => none
theorem SM_takesLetters : XS yX9_takesLetters cX9_takesLetters 3 none (xrm 1 22) FM_takesLetters := by
  refine XS.of (own := RX9) (by decide) rfl (rk := 0) rfl (tM_takesLetters) (fun vs h r hr => ?_)
  unfold FM_takesLetters at hr
  split at hr
  · exact ⟨rfl, Nat.le_of_ble_eq_true rfl, hr⟩
  · cases hr
-- LineDiagramModel.takesDigits()V
def rM_takesDigits : List (Nat × XRow) := [(0, (.aload_n 0, 1, 0, .null, [])),
  (1, (.iconst 0, 2, 0, .int (0 : Int32), [])),
  (2, (.putfield 248, 5, 248, .null, [])),
  (5, (.aload_n 0, 6, 0, .null, [])),
  (6, (.bipush 48, 8, 0, .int (48 : Int32), [])),
  (8, (.bipush 57, 10, 0, .int (57 : Int32), [])),
  (10, (.invokevirtual 233, 13, 233, .null, [])),
  (13, (.ifCond .eq 60, 16, 73, .null, [])),
  (16, (.aload_n 0, 17, 0, .null, [])),
  (17, (.aload_n 0, 18, 0, .null, [])),
  (18, (.getfield 208, 21, 208, .null, [])),
  (21, (.aload_n 0, 22, 0, .null, [])),
  (22, (.getfield 236, 25, 236, .null, [])),
  (25, (.isub, 26, 0, .null, [])),
  (26, (.iconst 2, 27, 0, .int (2 : Int32), [])),
  (27, (.if_icmp .ge 26, 30, 53, .null, [])),
  (30, (.bipush 10, 32, 0, .int (10 : Int32), [])),
  (32, (.aload_n 0, 33, 0, .null, [])),
  (33, (.getfield 248, 36, 248, .null, [])),
  (36, (.imul, 37, 0, .null, [])),
  (37, (.aload_n 0, 38, 0, .null, [])),
  (38, (.getfield 7, 41, 7, .null, [])),
  (41, (.aload_n 0, 42, 0, .null, [])),
  (42, (.getfield 208, 45, 208, .null, [])),
  (45, (.baload, 46, 0, .null, [])),
  (46, (.iadd, 47, 0, .null, [])),
  (47, (.bipush 48, 49, 0, .int (48 : Int32), [])),
  (49, (.isub, 50, 0, .null, [])),
  (50, (.goto 7, 53, 57, .null, [])),
  (53, (.aload_n 0, 54, 0, .null, [])),
  (54, (.getfield 248, 57, 248, .null, [])),
  (57, (.putfield 248, 60, 248, .null, [])),
  (60, (.aload_n 0, 61, 0, .null, [])),
  (61, (.dup, 62, 0, .null, [])),
  (62, (.getfield 208, 65, 208, .null, [])),
  (65, (.iconst 1, 66, 0, .int (1 : Int32), [])),
  (66, (.iadd, 67, 0, .null, [])),
  (67, (.putfield 208, 70, 208, .null, [])),
  (70, (.goto (-65), 73, 5, .null, [])),
  (73, (.aload_n 0, 74, 0, .null, [])),
  (74, (.aload_n 0, 75, 0, .null, [])),
  (75, (.getfield 208, 78, 208, .null, [])),
  (78, (.aload_n 0, 79, 0, .null, [])),
  (79, (.getfield 236, 82, 236, .null, [])),
  (82, (.isub, 83, 0, .null, [])),
  (83, (.iconst 3, 84, 0, .int (3 : Int32), [])),
  (84, (.if_icmp .ge 7, 87, 91, .null, [])),
  (87, (.iconst 3, 88, 0, .int (3 : Int32), [])),
  (88, (.goto 4, 91, 92, .null, [])),
  (91, (.iconst 5, 92, 0, .int (5 : Int32), [])),
  (92, (.putfield 245, 95, 245, .null, [])),
  (95, (.return_, 96, 0, .null, []))]
def mM_takesDigits : List (Nat × XM) := [(233, (3, 1, some 9, FM_isByte))]
abbrev BM_takesDigits : XB := (rM_takesDigits, XFT_M, mM_takesDigits, 0, XST_M)
set_option maxRecDepth 100000 in
theorem kM_takesDigits : XOK BM_takesDigits cX9_takesDigits 1 RX9 1 22 := xok_of (cps := []) (K := XKT_M) (by decide +kernel) XKT_M_ok (fun _ h => absurd h List.not_mem_nil) XFT_M_ok (List.forall_mem_cons.mpr ⟨⟨_, _, _, _, _, _, _, SM_isByte, rfl, rfl, Nat.le_of_ble_eq_true rfl, Nat.le_of_ble_eq_true rfl, cdM_isByte, lkM_233, imM_isByte, slM_isByte, inM_isByte, pmM_isByte⟩, fun _ h => absurd h List.not_mem_nil⟩) XST_M_ok
def wM_takesDigits_57 (f : Nat → Int32 → Nat → XH → XR) : List Value → List Value → XH → XR := fun vs st h => match vs, st with
  | [.ref a0], [.int s0, .ref s1] => f a0 s0 s1 h
  | _, _ => none
def wM_takesDigits_92 (f : Int32 → Nat → XH → XR) : List Value → List Value → XH → XR := fun vs st h => match vs, st with
  | [], [.int s0, .ref s1] => f s0 s1 h
  | _, _ => none
def wM_takesDigits_73 (f : Nat → XH → XR) : List Value → List Value → XH → XR := fun vs st h => match vs, st with
  | [.ref a0], [] => f a0 h
  | _, _ => none
def wM_takesDigits_5 (f : Nat → XH → XR) : List Value → List Value → XH → XR := fun vs st h => match vs, st with
  | [.ref a0], [] => f a0 h
  | _, _ => none
def wM_takesDigits (f : Nat → XH → XR) : List Value → List Value → XH → XR := fun vs st h => match vs, st with
  | [.ref a0], [] => f a0 h
  | _, _ => none
set_option maxRecDepth 100000 in
theorem eM_takesDigits_57 (k5 : Nat → XH → XR) (a0 : Nat) (s0 : Int32) (s1 : Nat) (h : XH) : qM_takesDigits_57 k5 a0 s0 s1 h = xrun BM_takesDigits (xfind [(5, ([0], wM_takesDigits_5 (k5)))]) 55 57 (List.zip [0] [.ref a0]) [.int s0, .ref s1] h := rfl
theorem tM_takesDigits_57 {k5 : Nat → XH → XR} (hk5 : XTo cX9_takesDigits 1 RX9 0 1 22 5 [0] (wM_takesDigits_5 k5)) : XTo cX9_takesDigits 1 RX9 0 1 22 57 [0] (wM_takesDigits_57 (qM_takesDigits_57 k5)) := by
  refine XTo.run (B := BM_takesDigits) (cut := xfind [(5, ([0], wM_takesDigits_5 (k5)))]) kM_takesDigits (xcuts_ok (List.forall_mem_cons.mpr ⟨hk5, fun _ h => absurd h List.not_mem_nil⟩)) 55 (fun vs st h r hr => ?_)
  unfold wM_takesDigits_57 at hr
  split at hr
  · exact (eM_takesDigits_57 k5 _ _ _ _).symm.trans hr
  · cases hr
set_option maxRecDepth 100000 in
theorem eM_takesDigits_92 (s0 : Int32) (s1 : Nat) (h : XH) : qM_takesDigits_92 s0 s1 h = xrun BM_takesDigits (xfind []) 55 92 (List.zip [] []) [.int s0, .ref s1] h := rfl
theorem tM_takesDigits_92 : XTo cX9_takesDigits 1 RX9 0 1 22 92 [] (wM_takesDigits_92 (qM_takesDigits_92)) := by
  refine XTo.run (B := BM_takesDigits) (cut := xfind []) kM_takesDigits (xcuts_ok (fun _ h => absurd h List.not_mem_nil)) 55 (fun vs st h r hr => ?_)
  unfold wM_takesDigits_92 at hr
  split at hr
  · exact (eM_takesDigits_92 _ _ _).symm.trans hr
  · cases hr
set_option maxRecDepth 100000 in
theorem eM_takesDigits_73 (a0 : Nat) (h : XH) : qM_takesDigits_73 a0 h = xrun BM_takesDigits (xfind [(92, ([], wM_takesDigits_92 (qM_takesDigits_92)))]) 55 73 (List.zip [0] [.ref a0]) [] h := rfl
theorem tM_takesDigits_73 : XTo cX9_takesDigits 1 RX9 0 1 22 73 [0] (wM_takesDigits_73 (qM_takesDigits_73)) := by
  refine XTo.run (B := BM_takesDigits) (cut := xfind [(92, ([], wM_takesDigits_92 (qM_takesDigits_92)))]) kM_takesDigits (xcuts_ok (List.forall_mem_cons.mpr ⟨tM_takesDigits_92, fun _ h => absurd h List.not_mem_nil⟩)) 55 (fun vs st h r hr => ?_)
  unfold wM_takesDigits_73 at hr
  split at hr
  · exact (eM_takesDigits_73 _ _).symm.trans hr
  · cases hr
set_option maxRecDepth 100000 in
theorem eM_takesDigits_5_b (k5 : Nat → XH → XR) (a0 : Nat) (h : XH) : qM_takesDigits_5_b k5 a0 h = xrun BM_takesDigits (xfind [(57, ([0], wM_takesDigits_57 (qM_takesDigits_57 k5))), (73, ([0], wM_takesDigits_73 (qM_takesDigits_73)))]) 55 5 (List.zip [0] [.ref a0]) [] h := rfl
theorem tM_takesDigits_5_b {k5 : Nat → XH → XR} (hk5 : XTo cX9_takesDigits 1 RX9 0 1 22 5 [0] (wM_takesDigits_5 k5)) : XTo cX9_takesDigits 1 RX9 0 1 22 5 [0] (wM_takesDigits_5 (qM_takesDigits_5_b k5)) := by
  refine XTo.run (B := BM_takesDigits) (cut := xfind [(57, ([0], wM_takesDigits_57 (qM_takesDigits_57 k5))), (73, ([0], wM_takesDigits_73 (qM_takesDigits_73)))]) kM_takesDigits (xcuts_ok (List.forall_mem_cons.mpr ⟨tM_takesDigits_57 hk5, List.forall_mem_cons.mpr ⟨tM_takesDigits_73, fun _ h => absurd h List.not_mem_nil⟩⟩)) 55 (fun vs st h r hr => ?_)
  unfold wM_takesDigits_5 at hr
  split at hr
  · exact (eM_takesDigits_5_b k5 _ _).symm.trans hr
  · cases hr
theorem tM_takesDigits_5 : ∀ n : Nat, XTo cX9_takesDigits 1 RX9 0 1 22 5 [0] (wM_takesDigits_5 (qM_takesDigits_5 n)) := by
  intro n
  induction n with
  | zero =>
    refine XTo.none fun vs st h => ?_
    unfold wM_takesDigits_5
    split <;> rfl
  | succ n ih => exact tM_takesDigits_5_b  ih
set_option maxRecDepth 100000 in
theorem eM_takesDigits (a0 : Nat) (h : XH) : qM_takesDigits a0 h = xrun BM_takesDigits (xfind [(5, ([0], wM_takesDigits_5 (qM_takesDigits_5 LF)))]) 55 0 (List.zip [0] [.ref a0]) [] h := rfl
theorem tM_takesDigits : XTo cX9_takesDigits 1 RX9 0 1 22 0 [0] (wM_takesDigits (qM_takesDigits)) := by
  refine XTo.run (B := BM_takesDigits) (cut := xfind [(5, ([0], wM_takesDigits_5 (qM_takesDigits_5 LF)))]) kM_takesDigits (xcuts_ok (List.forall_mem_cons.mpr ⟨tM_takesDigits_5 LF, fun _ h => absurd h List.not_mem_nil⟩)) 55 (fun vs st h r hr => ?_)
  unfold wM_takesDigits at hr
  split at hr
  · exact (eM_takesDigits _ _).symm.trans hr
  · cases hr
def FM_takesDigits : List Value → XH → XR := fun vs h => match vs with
  | [.ref a0] => qM_takesDigits a0 h
  | _ => none
theorem SM_takesDigits : XS yX9_takesDigits cX9_takesDigits 1 none (xrm 1 22) FM_takesDigits := by
  refine XS.of (own := RX9) (by decide) rfl (rk := 0) rfl (tM_takesDigits) (fun vs h r hr => ?_)
  unfold FM_takesDigits at hr
  split at hr
  · exact ⟨rfl, Nat.le_of_ble_eq_true rfl, hr⟩
  · cases hr
-- LineDiagramModel.goesOn()V
def rM_goesOn : List (Nat × XRow) := [(0, (.aload_n 0, 1, 0, .null, [])),
  (1, (.getfield 208, 4, 208, .null, [])),
  (4, (.aload_n 0, 5, 0, .null, [])),
  (5, (.getfield 211, 8, 211, .null, [])),
  (8, (.if_icmp .ge 44, 11, 52, .null, [])),
  (11, (.aload_n 0, 12, 0, .null, [])),
  (12, (.getfield 7, 15, 7, .null, [])),
  (15, (.aload_n 0, 16, 0, .null, [])),
  (16, (.getfield 208, 19, 208, .null, [])),
  (19, (.baload, 20, 0, .null, [])),
  (20, (.bipush 32, 22, 0, .int (32 : Int32), [])),
  (22, (.if_icmp .eq 17, 25, 39, .null, [])),
  (25, (.aload_n 0, 26, 0, .null, [])),
  (26, (.getfield 7, 29, 7, .null, [])),
  (29, (.aload_n 0, 30, 0, .null, [])),
  (30, (.getfield 208, 33, 208, .null, [])),
  (33, (.baload, 34, 0, .null, [])),
  (34, (.bipush 10, 36, 0, .int (10 : Int32), [])),
  (36, (.if_icmp .ne 16, 39, 52, .null, [])),
  (39, (.aload_n 0, 40, 0, .null, [])),
  (40, (.dup, 41, 0, .null, [])),
  (41, (.getfield 208, 44, 208, .null, [])),
  (44, (.iconst 1, 45, 0, .int (1 : Int32), [])),
  (45, (.iadd, 46, 0, .null, [])),
  (46, (.putfield 208, 49, 208, .null, [])),
  (49, (.goto (-49), 52, 0, .null, [])),
  (52, (.aload_n 0, 53, 0, .null, [])),
  (53, (.aload_n 0, 54, 0, .null, [])),
  (54, (.getfield 208, 57, 208, .null, [])),
  (57, (.putfield 236, 60, 236, .null, [])),
  (60, (.aload_n 0, 61, 0, .null, [])),
  (61, (.getfield 208, 64, 208, .null, [])),
  (64, (.aload_n 0, 65, 0, .null, [])),
  (65, (.getfield 211, 68, 211, .null, [])),
  (68, (.if_icmp .ne 11, 71, 79, .null, [])),
  (71, (.aload_n 0, 72, 0, .null, [])),
  (72, (.iconst 0, 73, 0, .int (0 : Int32), [])),
  (73, (.putfield 245, 76, 245, .null, [])),
  (76, (.goto 72, 79, 148, .null, [])),
  (79, (.aload_n 0, 80, 0, .null, [])),
  (80, (.bipush 97, 82, 0, .int (97 : Int32), [])),
  (82, (.bipush 122, 84, 0, .int (122 : Int32), [])),
  (84, (.invokevirtual 233, 87, 233, .null, [])),
  (87, (.ifCond .eq 10, 90, 97, .null, [])),
  (90, (.aload_n 0, 91, 0, .null, [])),
  (91, (.invokevirtual 251, 94, 251, .null, [])),
  (94, (.goto 54, 97, 148, .null, [])),
  (97, (.aload_n 0, 98, 0, .null, [])),
  (98, (.bipush 48, 100, 0, .int (48 : Int32), [])),
  (100, (.bipush 57, 102, 0, .int (57 : Int32), [])),
  (102, (.invokevirtual 233, 105, 233, .null, [])),
  (105, (.ifCond .eq 10, 108, 115, .null, [])),
  (108, (.aload_n 0, 109, 0, .null, [])),
  (109, (.invokevirtual 254, 112, 254, .null, [])),
  (112, (.goto 36, 115, 148, .null, [])),
  (115, (.aload_n 0, 116, 0, .null, [])),
  (116, (.aload_n 0, 117, 0, .null, [])),
  (117, (.getfield 7, 120, 7, .null, [])),
  (120, (.aload_n 0, 121, 0, .null, [])),
  (121, (.getfield 208, 124, 208, .null, [])),
  (124, (.baload, 125, 0, .null, [])),
  (125, (.bipush 59, 127, 0, .int (59 : Int32), [])),
  (127, (.if_icmp .ne 7, 130, 134, .null, [])),
  (130, (.iconst 4, 131, 0, .int (4 : Int32), [])),
  (131, (.goto 4, 134, 135, .null, [])),
  (134, (.iconst 5, 135, 0, .int (5 : Int32), [])),
  (135, (.putfield 245, 138, 245, .null, [])),
  (138, (.aload_n 0, 139, 0, .null, [])),
  (139, (.dup, 140, 0, .null, [])),
  (140, (.getfield 208, 143, 208, .null, [])),
  (143, (.iconst 1, 144, 0, .int (1 : Int32), [])),
  (144, (.iadd, 145, 0, .null, [])),
  (145, (.putfield 208, 148, 208, .null, [])),
  (148, (.return_, 149, 0, .null, []))]
def mM_goesOn : List (Nat × XM) := [(233, (3, 1, some 9, FM_isByte)), (251, (1, 0, some 9, FM_takesLetters)), (254, (1, 0, some 9, FM_takesDigits))]
abbrev BM_goesOn : XB := (rM_goesOn, XFT_M, mM_goesOn, 0, XST_M)
set_option maxRecDepth 100000 in
theorem kM_goesOn : XOK BM_goesOn cX9_goesOn 1 RX9 2 44 := xok_of (cps := []) (K := XKT_M) (by decide +kernel) XKT_M_ok (fun _ h => absurd h List.not_mem_nil) XFT_M_ok (List.forall_mem_cons.mpr ⟨⟨_, _, _, _, _, _, _, SM_isByte, rfl, rfl, Nat.le_of_ble_eq_true rfl, Nat.le_of_ble_eq_true rfl, cdM_isByte, lkM_233, imM_isByte, slM_isByte, inM_isByte, pmM_isByte⟩, List.forall_mem_cons.mpr ⟨⟨_, _, _, _, _, _, _, SM_takesLetters, rfl, rfl, Nat.le_of_ble_eq_true rfl, Nat.le_of_ble_eq_true rfl, cdM_takesLetters, lkM_251, imM_takesLetters, slM_takesLetters, inM_takesLetters, pmM_takesLetters⟩, List.forall_mem_cons.mpr ⟨⟨_, _, _, _, _, _, _, SM_takesDigits, rfl, rfl, Nat.le_of_ble_eq_true rfl, Nat.le_of_ble_eq_true rfl, cdM_takesDigits, lkM_254, imM_takesDigits, slM_takesDigits, inM_takesDigits, pmM_takesDigits⟩, fun _ h => absurd h List.not_mem_nil⟩⟩⟩) XST_M_ok
def wM_goesOn_39 (f : Nat → XH → XR) : List Value → List Value → XH → XR := fun vs st h => match vs, st with
  | [.ref a0], [] => f a0 h
  | _, _ => none
def wM_goesOn_135 (f : Nat → Int32 → Nat → XH → XR) : List Value → List Value → XH → XR := fun vs st h => match vs, st with
  | [.ref a0], [.int s0, .ref s1] => f a0 s0 s1 h
  | _, _ => none
def wM_goesOn_52 (f : Nat → XH → XR) : List Value → List Value → XH → XR := fun vs st h => match vs, st with
  | [.ref a0], [] => f a0 h
  | _, _ => none
def wM_goesOn_0 (f : Nat → XH → XR) : List Value → List Value → XH → XR := fun vs st h => match vs, st with
  | [.ref a0], [] => f a0 h
  | _, _ => none
set_option maxRecDepth 100000 in
theorem eM_goesOn_39 (k0 : Nat → XH → XR) (a0 : Nat) (h : XH) : qM_goesOn_39 k0 a0 h = xrun BM_goesOn (xfind [(0, ([0], wM_goesOn_0 (k0)))]) 77 39 (List.zip [0] [.ref a0]) [] h := rfl
theorem tM_goesOn_39 {k0 : Nat → XH → XR} (hk0 : XTo cX9_goesOn 1 RX9 0 2 44 0 [0] (wM_goesOn_0 k0)) : XTo cX9_goesOn 1 RX9 0 2 44 39 [0] (wM_goesOn_39 (qM_goesOn_39 k0)) := by
  refine XTo.run (B := BM_goesOn) (cut := xfind [(0, ([0], wM_goesOn_0 (k0)))]) kM_goesOn (xcuts_ok (List.forall_mem_cons.mpr ⟨hk0, fun _ h => absurd h List.not_mem_nil⟩)) 77 (fun vs st h r hr => ?_)
  unfold wM_goesOn_39 at hr
  split at hr
  · exact (eM_goesOn_39 k0 _ _).symm.trans hr
  · cases hr
set_option maxRecDepth 100000 in
theorem eM_goesOn_135 (a0 : Nat) (s0 : Int32) (s1 : Nat) (h : XH) : qM_goesOn_135 a0 s0 s1 h = xrun BM_goesOn (xfind []) 77 135 (List.zip [0] [.ref a0]) [.int s0, .ref s1] h := rfl
theorem tM_goesOn_135 : XTo cX9_goesOn 1 RX9 0 2 44 135 [0] (wM_goesOn_135 (qM_goesOn_135)) := by
  refine XTo.run (B := BM_goesOn) (cut := xfind []) kM_goesOn (xcuts_ok (fun _ h => absurd h List.not_mem_nil)) 77 (fun vs st h r hr => ?_)
  unfold wM_goesOn_135 at hr
  split at hr
  · exact (eM_goesOn_135 _ _ _ _).symm.trans hr
  · cases hr
set_option maxRecDepth 100000 in
theorem eM_goesOn_52 (a0 : Nat) (h : XH) : qM_goesOn_52 a0 h = xrun BM_goesOn (xfind [(135, ([0], wM_goesOn_135 (qM_goesOn_135)))]) 77 52 (List.zip [0] [.ref a0]) [] h := rfl
theorem tM_goesOn_52 : XTo cX9_goesOn 1 RX9 0 2 44 52 [0] (wM_goesOn_52 (qM_goesOn_52)) := by
  refine XTo.run (B := BM_goesOn) (cut := xfind [(135, ([0], wM_goesOn_135 (qM_goesOn_135)))]) kM_goesOn (xcuts_ok (List.forall_mem_cons.mpr ⟨tM_goesOn_135, fun _ h => absurd h List.not_mem_nil⟩)) 77 (fun vs st h r hr => ?_)
  unfold wM_goesOn_52 at hr
  split at hr
  · exact (eM_goesOn_52 _ _).symm.trans hr
  · cases hr
set_option maxRecDepth 100000 in
theorem eM_goesOn_0_b (k0 : Nat → XH → XR) (a0 : Nat) (h : XH) : qM_goesOn_0_b k0 a0 h = xrun BM_goesOn (xfind [(39, ([0], wM_goesOn_39 (qM_goesOn_39 k0))), (52, ([0], wM_goesOn_52 (qM_goesOn_52)))]) 77 0 (List.zip [0] [.ref a0]) [] h := rfl
theorem tM_goesOn_0_b {k0 : Nat → XH → XR} (hk0 : XTo cX9_goesOn 1 RX9 0 2 44 0 [0] (wM_goesOn_0 k0)) : XTo cX9_goesOn 1 RX9 0 2 44 0 [0] (wM_goesOn_0 (qM_goesOn_0_b k0)) := by
  refine XTo.run (B := BM_goesOn) (cut := xfind [(39, ([0], wM_goesOn_39 (qM_goesOn_39 k0))), (52, ([0], wM_goesOn_52 (qM_goesOn_52)))]) kM_goesOn (xcuts_ok (List.forall_mem_cons.mpr ⟨tM_goesOn_39 hk0, List.forall_mem_cons.mpr ⟨tM_goesOn_52, fun _ h => absurd h List.not_mem_nil⟩⟩)) 77 (fun vs st h r hr => ?_)
  unfold wM_goesOn_0 at hr
  split at hr
  · exact (eM_goesOn_0_b k0 _ _).symm.trans hr
  · cases hr
theorem tM_goesOn_0 : ∀ n : Nat, XTo cX9_goesOn 1 RX9 0 2 44 0 [0] (wM_goesOn_0 (qM_goesOn_0 n)) := by
  intro n
  induction n with
  | zero =>
    refine XTo.none fun vs st h => ?_
    unfold wM_goesOn_0
    split <;> rfl
  | succ n ih => exact tM_goesOn_0_b  ih
def FM_goesOn : List Value → XH → XR := fun vs h => match vs with
  | [.ref a0] => qM_goesOn a0 h
  | _ => none
theorem SM_goesOn : XS yX9_goesOn cX9_goesOn 1 none (xrm 2 44) FM_goesOn := by
  refine XS.of (own := RX9) (by decide) rfl (rk := 0) rfl (tM_goesOn_0 LF) (fun vs h r hr => ?_)
  unfold FM_goesOn at hr
  split at hr
  · exact ⟨rfl, Nat.le_of_ble_eq_true rfl, hr⟩
  · cases hr
-- LineDiagramModel.takes(Z)V
def rM_takes : List (Nat × XRow) := [(0, (.aload_n 0, 1, 0, .null, [])),
  (1, (.getfield 257, 4, 257, .null, [])),
  (4, (.ifCond .eq 20, 7, 24, .null, [])),
  (7, (.iload_n 1, 8, 1, .null, [])),
  (8, (.ifCond .ne 16, 11, 24, .null, [])),
  (11, (.aload_n 0, 12, 0, .null, [])),
  (12, (.iconst 0, 13, 0, .int (0 : Int32), [])),
  (13, (.putfield 257, 16, 257, .null, [])),
  (16, (.aload_n 0, 17, 0, .null, [])),
  (17, (.aload_n 0, 18, 0, .null, [])),
  (18, (.getfield 236, 21, 236, .null, [])),
  (21, (.putfield 13, 24, 13, .null, [])),
  (24, (.aload_n 0, 25, 0, .null, [])),
  (25, (.getfield 257, 28, 257, .null, [])),
  (28, (.ifCond .eq 7, 31, 35, .null, [])),
  (31, (.aload_n 0, 32, 0, .null, [])),
  (32, (.invokevirtual 261, 35, 261, .null, [])),
  (35, (.return_, 36, 0, .null, []))]
def mM_takes : List (Nat × XM) := [(261, (1, 0, some 9, FM_goesOn))]
abbrev BM_takes : XB := (rM_takes, XFT_M, mM_takes, 0, XST_M)
set_option maxRecDepth 100000 in
theorem kM_takes : XOK BM_takes cX9_takes 2 RX9 3 64 := xok_of (cps := []) (K := XKT_M) (by decide +kernel) XKT_M_ok (fun _ h => absurd h List.not_mem_nil) XFT_M_ok (List.forall_mem_cons.mpr ⟨⟨_, _, _, _, _, _, _, SM_goesOn, rfl, rfl, Nat.le_of_ble_eq_true rfl, Nat.le_of_ble_eq_true rfl, cdM_goesOn, lkM_261, imM_goesOn, slM_goesOn, inM_goesOn, pmM_goesOn⟩, fun _ h => absurd h List.not_mem_nil⟩) XST_M_ok
def wM_takes_24 (f : Nat → XH → XR) : List Value → List Value → XH → XR := fun vs st h => match vs, st with
  | [.ref a0], [] => f a0 h
  | _, _ => none
def wM_takes (f : Nat → Int32 → XH → XR) : List Value → List Value → XH → XR := fun vs st h => match vs, st with
  | [.ref a0, .int x1], [] => f a0 x1 h
  | _, _ => none
set_option maxRecDepth 100000 in
theorem eM_takes_24 (a0 : Nat) (h : XH) : qM_takes_24 a0 h = xrun BM_takes (xfind []) 21 24 (List.zip [0] [.ref a0]) [] h := rfl
theorem tM_takes_24 : XTo cX9_takes 2 RX9 0 3 64 24 [0] (wM_takes_24 (qM_takes_24)) := by
  refine XTo.run (B := BM_takes) (cut := xfind []) kM_takes (xcuts_ok (fun _ h => absurd h List.not_mem_nil)) 21 (fun vs st h r hr => ?_)
  unfold wM_takes_24 at hr
  split at hr
  · exact (eM_takes_24 _ _).symm.trans hr
  · cases hr
set_option maxRecDepth 100000 in
theorem eM_takes (a0 : Nat) (x1 : Int32) (h : XH) : qM_takes a0 x1 h = xrun BM_takes (xfind [(24, ([0], wM_takes_24 (qM_takes_24)))]) 21 0 (List.zip [0, 1] [.ref a0, .int x1]) [] h := rfl
theorem tM_takes : XTo cX9_takes 2 RX9 0 3 64 0 [0, 1] (wM_takes (qM_takes)) := by
  refine XTo.run (B := BM_takes) (cut := xfind [(24, ([0], wM_takes_24 (qM_takes_24)))]) kM_takes (xcuts_ok (List.forall_mem_cons.mpr ⟨tM_takes_24, fun _ h => absurd h List.not_mem_nil⟩)) 21 (fun vs st h r hr => ?_)
  unfold wM_takes at hr
  split at hr
  · exact (eM_takes _ _ _).symm.trans hr
  · cases hr
def FM_takes : List Value → XH → XR := fun vs h => match vs with
  | [.ref a0, .int x1] => qM_takes a0 x1 h
  | _ => none
theorem SM_takes : XS yX9_takes cX9_takes 2 none (xrm 3 64) FM_takes := by
  refine XS.of (own := RX9) (by decide) rfl (rk := 0) rfl (tM_takes) (fun vs h r hr => ?_)
  unfold FM_takes at hr
  split at hr
  · exact ⟨rfl, Nat.le_of_ble_eq_true rfl, hr⟩
  · cases hr
-- LineDiagramModel.isInt(II)Z
def rM_isInt : List (Nat × XRow) := [(0, (.aload_n 0, 1, 0, .null, [])),
  (1, (.getfield 245, 4, 245, .null, [])),
  (4, (.iconst 3, 5, 0, .int (3 : Int32), [])),
  (5, (.if_icmp .ne 22, 8, 27, .null, [])),
  (8, (.aload_n 0, 9, 0, .null, [])),
  (9, (.getfield 248, 12, 248, .null, [])),
  (12, (.i2l, 13, 0, .null, [])),
  (13, (.iload_n 1, 14, 1, .null, [])),
  (14, (.i2l, 15, 0, .null, [])),
  (15, (.iload_n 2, 16, 2, .null, [])),
  (16, (.i2l, 17, 0, .null, [])),
  (17, (.invokestatic 96, 20, 96, .null, [])),
  (20, (.ifCond .eq 7, 23, 27, .null, [])),
  (23, (.iconst 1, 24, 0, .int (1 : Int32), [])),
  (24, (.goto 4, 27, 28, .null, [])),
  (27, (.iconst 0, 28, 0, .int (0 : Int32), [])),
  (28, (.ireturn, 29, 0, .null, []))]
def mM_isInt : List (Nat × XM) := [(96, (3, 1, none, FM_in))]
abbrev BM_isInt : XB := (rM_isInt, XFT_M, mM_isInt, 6, XST_M)
set_option maxRecDepth 100000 in
theorem kM_isInt : XOK BM_isInt cX9_isInt 3 RX9 1 25 := xok_of (cps := []) (K := XKT_M) (by decide +kernel) XKT_M_ok (fun _ h => absurd h List.not_mem_nil) XFT_M_ok (List.forall_mem_cons.mpr ⟨⟨_, _, _, _, _, _, SM_in, Nat.le_of_ble_eq_true rfl, Nat.le_of_ble_eq_true rfl, cdM_in, lkM_96, imM_in, inM_in, pmM_in⟩, fun _ h => absurd h List.not_mem_nil⟩) XST_M_ok
def wM_isInt (f : Nat → Int32 → Int32 → XH → XR) : List Value → List Value → XH → XR := fun vs st h => match vs, st with
  | [.ref a0, .int x1, .int x2], [] => f a0 x1 x2 h
  | _, _ => none
set_option maxRecDepth 100000 in
theorem eM_isInt (a0 : Nat) (x1 : Int32) (x2 : Int32) (h : XH) : qM_isInt a0 x1 x2 h = xrun BM_isInt (xfind []) 20 0 (List.zip [0, 1, 2] [.ref a0, .int x1, .int x2]) [] h := rfl
theorem tM_isInt : XTo cX9_isInt 3 RX9 6 1 25 0 [0, 1, 2] (wM_isInt (qM_isInt)) := by
  refine XTo.run (B := BM_isInt) (cut := xfind []) kM_isInt (xcuts_ok (fun _ h => absurd h List.not_mem_nil)) 20 (fun vs st h r hr => ?_)
  unfold wM_isInt at hr
  split at hr
  · exact (eM_isInt _ _ _ _).symm.trans hr
  · cases hr
def FM_isInt : List Value → XH → XR := fun vs h => match vs with
  | [.ref a0, .int x1, .int x2] => qM_isInt a0 x1 x2 h
  | _ => none
theorem SM_isInt : XS yX9_isInt cX9_isInt 3 (some .boolean) (xrm 1 25) FM_isInt := by
  refine XS.of (own := RX9) (by decide) rfl (rk := 6) rfl (tM_isInt) (fun vs h r hr => ?_)
  unfold FM_isInt at hr
  split at hr
  · exact ⟨rfl, Nat.le_of_ble_eq_true rfl, hr⟩
  · cases hr
-- LineDiagramModel.numberIn(II)I
def rM_numberIn : List (Nat × XRow) := [(0, (.aload_n 0, 1, 0, .null, [])),
  (1, (.getfield 248, 4, 248, .null, [])),
  (4, (.istore_n 3, 5, 3, .null, [])),
  (5, (.aload_n 0, 6, 0, .null, [])),
  (6, (.aload_n 0, 7, 0, .null, [])),
  (7, (.iload_n 1, 8, 1, .null, [])),
  (8, (.iload_n 2, 9, 2, .null, [])),
  (9, (.invokevirtual 264, 12, 264, .null, [])),
  (12, (.invokevirtual 267, 15, 267, .null, [])),
  (15, (.iload_n 3, 16, 3, .null, [])),
  (16, (.ireturn, 17, 0, .null, []))]
def mM_numberIn : List (Nat × XM) := [(264, (3, 1, some 9, FM_isInt)), (267, (2, 0, some 9, FM_takes))]
abbrev BM_numberIn : XB := (rM_numberIn, XFT_M, mM_numberIn, 1, XST_M)
set_option maxRecDepth 100000 in
theorem kM_numberIn : XOK BM_numberIn cX9_numberIn 4 RX9 4 85 := xok_of (cps := []) (K := XKT_M) (by decide +kernel) XKT_M_ok (fun _ h => absurd h List.not_mem_nil) XFT_M_ok (List.forall_mem_cons.mpr ⟨⟨_, _, _, _, _, _, _, SM_isInt, rfl, rfl, Nat.le_of_ble_eq_true rfl, Nat.le_of_ble_eq_true rfl, cdM_isInt, lkM_264, imM_isInt, slM_isInt, inM_isInt, pmM_isInt⟩, List.forall_mem_cons.mpr ⟨⟨_, _, _, _, _, _, _, SM_takes, rfl, rfl, Nat.le_of_ble_eq_true rfl, Nat.le_of_ble_eq_true rfl, cdM_takes, lkM_267, imM_takes, slM_takes, inM_takes, pmM_takes⟩, fun _ h => absurd h List.not_mem_nil⟩⟩) XST_M_ok
def wM_numberIn (f : Nat → Int32 → Int32 → XH → XR) : List Value → List Value → XH → XR := fun vs st h => match vs, st with
  | [.ref a0, .int x1, .int x2], [] => f a0 x1 x2 h
  | _, _ => none
set_option maxRecDepth 100000 in
theorem eM_numberIn (a0 : Nat) (x1 : Int32) (x2 : Int32) (h : XH) : qM_numberIn a0 x1 x2 h = xrun BM_numberIn (xfind []) 14 0 (List.zip [0, 1, 2] [.ref a0, .int x1, .int x2]) [] h := rfl
theorem tM_numberIn : XTo cX9_numberIn 4 RX9 1 4 85 0 [0, 1, 2] (wM_numberIn (qM_numberIn)) := by
  refine XTo.run (B := BM_numberIn) (cut := xfind []) kM_numberIn (xcuts_ok (fun _ h => absurd h List.not_mem_nil)) 14 (fun vs st h r hr => ?_)
  unfold wM_numberIn at hr
  split at hr
  · exact (eM_numberIn _ _ _ _).symm.trans hr
  · cases hr
def FM_numberIn : List Value → XH → XR := fun vs h => match vs with
  | [.ref a0, .int x1, .int x2] => qM_numberIn a0 x1 x2 h
  | _ => none
theorem SM_numberIn : XS yX9_numberIn cX9_numberIn 4 (some .int) (xrm 4 85) FM_numberIn := by
  refine XS.of (own := RX9) (by decide) rfl (rk := 1) rfl (tM_numberIn) (fun vs h r hr => ?_)
  unfold FM_numberIn at hr
  split at hr
  · exact ⟨rfl, Nat.le_of_ble_eq_true rfl, hr⟩
  · cases hr
-- LineDiagramModel.isHere(J)Z
def rM_isHere : List (Nat × XRow) := [(0, (.aload_n 0, 1, 0, .null, [])),
  (1, (.getfield 257, 4, 257, .null, [])),
  (4, (.ifCond .eq 24, 7, 28, .null, [])),
  (7, (.aload_n 0, 8, 0, .null, [])),
  (8, (.getfield 245, 11, 245, .null, [])),
  (11, (.iconst 2, 12, 0, .int (2 : Int32), [])),
  (12, (.if_icmp .ne 16, 15, 28, .null, [])),
  (15, (.aload_n 0, 16, 0, .null, [])),
  (16, (.getfield 226, 19, 226, .null, [])),
  (19, (.lload_n 1, 20, 1, .null, [])),
  (20, (.lcmp, 21, 0, .null, [])),
  (21, (.ifCond .ne 7, 24, 28, .null, [])),
  (24, (.iconst 1, 25, 0, .int (1 : Int32), [])),
  (25, (.goto 4, 28, 29, .null, [])),
  (28, (.iconst 0, 29, 0, .int (0 : Int32), [])),
  (29, (.ireturn, 30, 0, .null, []))]
def mM_isHere : List (Nat × XM) := []
abbrev BM_isHere : XB := (rM_isHere, XFT_M, mM_isHere, 6, XST_M)
set_option maxRecDepth 100000 in
theorem kM_isHere : XOK BM_isHere cX9_isHere 3 RX9 0 0 := xok_of (cps := []) (K := XKT_M) (by decide +kernel) XKT_M_ok (fun _ h => absurd h List.not_mem_nil) XFT_M_ok (fun _ h => absurd h List.not_mem_nil) XST_M_ok
def wM_isHere (f : Nat → Int64 → XH → XR) : List Value → List Value → XH → XR := fun vs st h => match vs, st with
  | [.ref a0, .long l1], [] => f a0 l1 h
  | _, _ => none
set_option maxRecDepth 100000 in
theorem eM_isHere (a0 : Nat) (l1 : Int64) (h : XH) : qM_isHere a0 l1 h = xrun BM_isHere (xfind []) 19 0 (List.zip [0, 1] [.ref a0, .long l1]) [] h := rfl
theorem tM_isHere : XTo cX9_isHere 3 RX9 6 0 0 0 [0, 1] (wM_isHere (qM_isHere)) := by
  refine XTo.run (B := BM_isHere) (cut := xfind []) kM_isHere (xcuts_ok (fun _ h => absurd h List.not_mem_nil)) 19 (fun vs st h r hr => ?_)
  unfold wM_isHere at hr
  split at hr
  · exact (eM_isHere _ _ _).symm.trans hr
  · cases hr
def FM_isHere : List Value → XH → XR := fun vs h => match vs with
  | [.ref a0, .long l1] => qM_isHere a0 l1 h
  | _ => none
theorem SM_isHere : XS yX9_isHere cX9_isHere 3 (some .boolean) (xrm 0 0) FM_isHere := by
  refine XS.of (own := RX9) (by decide) rfl (rk := 6) rfl (tM_isHere) (fun vs h r hr => ?_)
  unfold FM_isHere at hr
  split at hr
  · exact ⟨rfl, Nat.le_of_ble_eq_true rfl, hr⟩
  · cases hr
-- LineDiagramModel.numberOf(JII)I
def rM_numberOf : List (Nat × XRow) := [(0, (.aload_n 0, 1, 0, .null, [])),
  (1, (.aload_n 0, 2, 0, .null, [])),
  (2, (.lload_n 1, 3, 1, .null, [])),
  (3, (.invokevirtual 271, 6, 271, .null, [])),
  (6, (.invokevirtual 267, 9, 267, .null, [])),
  (9, (.aload_n 0, 10, 0, .null, [])),
  (10, (.iload_n 3, 11, 3, .null, [])),
  (11, (.iload 4, 13, 4, .null, [])),
  (13, (.invokevirtual 274, 16, 274, .null, [])),
  (16, (.ireturn, 17, 0, .null, []))]
def mM_numberOf : List (Nat × XM) := [(267, (2, 0, some 9, FM_takes)), (271, (2, 1, some 9, FM_isHere)), (274, (3, 1, some 9, FM_numberIn))]
abbrev BM_numberOf : XB := (rM_numberOf, XFT_M, mM_numberOf, 1, XST_M)
set_option maxRecDepth 100000 in
theorem kM_numberOf : XOK BM_numberOf cX9_numberOf 5 RX9 5 108 := xok_of (cps := []) (K := XKT_M) (by decide +kernel) XKT_M_ok (fun _ h => absurd h List.not_mem_nil) XFT_M_ok (List.forall_mem_cons.mpr ⟨⟨_, _, _, _, _, _, _, SM_takes, rfl, rfl, Nat.le_of_ble_eq_true rfl, Nat.le_of_ble_eq_true rfl, cdM_takes, lkM_267, imM_takes, slM_takes, inM_takes, pmM_takes⟩, List.forall_mem_cons.mpr ⟨⟨_, _, _, _, _, _, _, SM_isHere, rfl, rfl, Nat.le_of_ble_eq_true rfl, Nat.le_of_ble_eq_true rfl, cdM_isHere, lkM_271, imM_isHere, slM_isHere, inM_isHere, pmM_isHere⟩, List.forall_mem_cons.mpr ⟨⟨_, _, _, _, _, _, _, SM_numberIn, rfl, rfl, Nat.le_of_ble_eq_true rfl, Nat.le_of_ble_eq_true rfl, cdM_numberIn, lkM_274, imM_numberIn, slM_numberIn, inM_numberIn, pmM_numberIn⟩, fun _ h => absurd h List.not_mem_nil⟩⟩⟩) XST_M_ok
def wM_numberOf (f : Nat → Int64 → Int32 → Int32 → XH → XR) : List Value → List Value → XH → XR := fun vs st h => match vs, st with
  | [.ref a0, .long l1, .int x3, .int x4], [] => f a0 l1 x3 x4 h
  | _, _ => none
set_option maxRecDepth 100000 in
theorem eM_numberOf (a0 : Nat) (l1 : Int64) (x3 : Int32) (x4 : Int32) (h : XH) : qM_numberOf a0 l1 x3 x4 h = xrun BM_numberOf (xfind []) 13 0 (List.zip [0, 1, 3, 4] [.ref a0, .long l1, .int x3, .int x4]) [] h := rfl
theorem tM_numberOf : XTo cX9_numberOf 5 RX9 1 5 108 0 [0, 1, 3, 4] (wM_numberOf (qM_numberOf)) := by
  refine XTo.run (B := BM_numberOf) (cut := xfind []) kM_numberOf (xcuts_ok (fun _ h => absurd h List.not_mem_nil)) 13 (fun vs st h r hr => ?_)
  unfold wM_numberOf at hr
  split at hr
  · exact (eM_numberOf _ _ _ _ _).symm.trans hr
  · cases hr
def FM_numberOf : List Value → XH → XR := fun vs h => match vs with
  | [.ref a0, .long l1, .int x3, .int x4] => qM_numberOf a0 l1 x3 x4 h
  | _ => none
theorem SM_numberOf : XS yX9_numberOf cX9_numberOf 5 (some .int) (xrm 5 108) FM_numberOf := by
  refine XS.of (own := RX9) (by decide) rfl (rk := 1) rfl (tM_numberOf) (fun vs h r hr => ?_)
  unfold FM_numberOf at hr
  split at hr
  · exact ⟨rfl, Nat.le_of_ble_eq_true rfl, hr⟩
  · cases hr
-- LineDiagramModel.newAt(I)I
def rM_newAt : List (Nat × XRow) := [(0, (.bipush 23, 2, 0, .int (23 : Int32), [])),
  (2, (.aload_n 0, 3, 0, .null, [])),
  (3, (.getfield 277, 6, 277, .null, [])),
  (6, (.imul, 7, 0, .null, [])),
  (7, (.iload_n 1, 8, 1, .null, [])),
  (8, (.iadd, 9, 0, .null, [])),
  (9, (.ireturn, 10, 0, .null, []))]
def mM_newAt : List (Nat × XM) := []
abbrev BM_newAt : XB := (rM_newAt, XFT_M, mM_newAt, 1, XST_M)
set_option maxRecDepth 100000 in
theorem kM_newAt : XOK BM_newAt cX9_newAt 2 RX9 0 0 := xok_of (cps := []) (K := XKT_M) (by decide +kernel) XKT_M_ok (fun _ h => absurd h List.not_mem_nil) XFT_M_ok (fun _ h => absurd h List.not_mem_nil) XST_M_ok
def wM_newAt (f : Nat → Int32 → XH → XR) : List Value → List Value → XH → XR := fun vs st h => match vs, st with
  | [.ref a0, .int x1], [] => f a0 x1 h
  | _, _ => none
set_option maxRecDepth 100000 in
theorem eM_newAt (a0 : Nat) (x1 : Int32) (h : XH) : qM_newAt a0 x1 h = xrun BM_newAt (xfind []) 10 0 (List.zip [0, 1] [.ref a0, .int x1]) [] h := rfl
theorem tM_newAt : XTo cX9_newAt 2 RX9 1 0 0 0 [0, 1] (wM_newAt (qM_newAt)) := by
  refine XTo.run (B := BM_newAt) (cut := xfind []) kM_newAt (xcuts_ok (fun _ h => absurd h List.not_mem_nil)) 10 (fun vs st h r hr => ?_)
  unfold wM_newAt at hr
  split at hr
  · exact (eM_newAt _ _ _).symm.trans hr
  · cases hr
def FM_newAt : List Value → XH → XR := fun vs h => match vs with
  | [.ref a0, .int x1] => qM_newAt a0 x1 h
  | _ => none
theorem SM_newAt : XS yX9_newAt cX9_newAt 2 (some .int) (xrm 0 0) FM_newAt := by
  refine XS.of (own := RX9) (by decide) rfl (rk := 1) rfl (tM_newAt) (fun vs h r hr => ?_)
  unfold FM_newAt at hr
  split at hr
  · exact ⟨rfl, Nat.le_of_ble_eq_true rfl, hr⟩
  · cases hr
