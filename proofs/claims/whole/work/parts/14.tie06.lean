-- LineDiagramModel.readAll()V
def rM_readAll : List (Nat × XRow) := [(0, (.aload_n 0, 1, 0, .null, [])),
  (1, (.invokevirtual 261, 4, 261, .null, [])),
  (4, (.aload_n 0, 5, 0, .null, [])),
  (5, (.aload_n 0, 6, 0, .null, [])),
  (6, (.ldc2_w 214, 9, 214, .long (2590276 : Int64), [])),
  (9, (.iconst 4, 10, 0, .int (4 : Int32), [])),
  (10, (.bipush 40, 12, 0, .int (40 : Int32), [])),
  (12, (.invokevirtual 311, 15, 311, .null, [])),
  (15, (.putfield 295, 18, 295, .null, [])),
  (18, (.aload_n 0, 19, 0, .null, [])),
  (19, (.aload_n 0, 20, 0, .null, [])),
  (20, (.iconst 4, 21, 0, .int (4 : Int32), [])),
  (21, (.bipush 40, 23, 0, .int (40 : Int32), [])),
  (23, (.invokevirtual 274, 26, 274, .null, [])),
  (26, (.putfield 298, 29, 298, .null, [])),
  (29, (.aload_n 0, 30, 0, .null, [])),
  (30, (.aload_n 0, 31, 0, .null, [])),
  (31, (.ldc2_w 216, 34, 216, .long (677454 : Int64), [])),
  (34, (.iconst 0, 35, 0, .int (0 : Int32), [])),
  (35, (.iconst 3, 36, 0, .int (3 : Int32), [])),
  (36, (.invokevirtual 311, 39, 311, .null, [])),
  (39, (.putfield 292, 42, 292, .null, [])),
  (42, (.aload_n 0, 43, 0, .null, [])),
  (43, (.aload_n 0, 44, 0, .null, [])),
  (44, (.getfield 245, 47, 245, .null, [])),
  (47, (.iconst 4, 48, 0, .int (4 : Int32), [])),
  (48, (.if_icmp .ne 7, 51, 55, .null, [])),
  (51, (.iconst 1, 52, 0, .int (1 : Int32), [])),
  (52, (.goto 4, 55, 56, .null, [])),
  (55, (.iconst 0, 56, 0, .int (0 : Int32), [])),
  (56, (.invokevirtual 267, 59, 267, .null, [])),
  (59, (.aload_n 0, 60, 0, .null, [])),
  (60, (.getfield 257, 63, 257, .null, [])),
  (63, (.ifCond .eq 17, 66, 80, .null, [])),
  (66, (.aload_n 0, 67, 0, .null, [])),
  (67, (.getfield 245, 70, 245, .null, [])),
  (70, (.ifCond .eq 10, 73, 80, .null, [])),
  (73, (.aload_n 0, 74, 0, .null, [])),
  (74, (.invokevirtual 318, 77, 318, .null, [])),
  (77, (.goto (-18), 80, 59, .null, [])),
  (80, (.return_, 81, 0, .null, []))]
def mM_readAll : List (Nat × XM) := [(261, (1, 0, some 9, FM_goesOn)), (267, (2, 0, some 9, FM_takes)), (274, (3, 1, some 9, FM_numberIn)), (311, (4, 1, some 9, FM_numberOf)), (318, (1, 0, some 9, FM_readLine))]
abbrev BM_readAll : XB := (rM_readAll, XFT_M, mM_readAll, 0, XST_M)
set_option maxRecDepth 100000 in
theorem kM_readAll : XOK BM_readAll cX9_readAll 1 RX9 7 155 := xok_of (cps := []) (K := XKT_M) (by decide +kernel) XKT_M_ok (fun _ h => absurd h List.not_mem_nil) XFT_M_ok (List.forall_mem_cons.mpr ⟨⟨_, _, _, _, _, _, _, SM_goesOn, rfl, rfl, Nat.le_of_ble_eq_true rfl, Nat.le_of_ble_eq_true rfl, cdM_goesOn, lkM_261, imM_goesOn, slM_goesOn, inM_goesOn, pmM_goesOn⟩, List.forall_mem_cons.mpr ⟨⟨_, _, _, _, _, _, _, SM_takes, rfl, rfl, Nat.le_of_ble_eq_true rfl, Nat.le_of_ble_eq_true rfl, cdM_takes, lkM_267, imM_takes, slM_takes, inM_takes, pmM_takes⟩, List.forall_mem_cons.mpr ⟨⟨_, _, _, _, _, _, _, SM_numberIn, rfl, rfl, Nat.le_of_ble_eq_true rfl, Nat.le_of_ble_eq_true rfl, cdM_numberIn, lkM_274, imM_numberIn, slM_numberIn, inM_numberIn, pmM_numberIn⟩, List.forall_mem_cons.mpr ⟨⟨_, _, _, _, _, _, _, SM_numberOf, rfl, rfl, Nat.le_of_ble_eq_true rfl, Nat.le_of_ble_eq_true rfl, cdM_numberOf, lkM_311, imM_numberOf, slM_numberOf, inM_numberOf, pmM_numberOf⟩, List.forall_mem_cons.mpr ⟨⟨_, _, _, _, _, _, _, SM_readLine, rfl, rfl, Nat.le_of_ble_eq_true rfl, Nat.le_of_ble_eq_true rfl, cdM_readLine, lkM_318, imM_readLine, slM_readLine, inM_readLine, pmM_readLine⟩, fun _ h => absurd h List.not_mem_nil⟩⟩⟩⟩⟩) XST_M_ok
def wM_readAll_59 (f : Nat → XH → XR) : List Value → List Value → XH → XR := fun vs st h => match vs, st with
  | [.ref a0], [] => f a0 h
  | _, _ => none
def wM_readAll_56 (f : Nat → Int32 → Nat → XH → XR) : List Value → List Value → XH → XR := fun vs st h => match vs, st with
  | [.ref a0], [.int s0, .ref s1] => f a0 s0 s1 h
  | _, _ => none
def wM_readAll (f : Nat → XH → XR) : List Value → List Value → XH → XR := fun vs st h => match vs, st with
  | [.ref a0], [] => f a0 h
  | _, _ => none
set_option maxRecDepth 100000 in
theorem eM_readAll_59_b (k59 : Nat → XH → XR) (a0 : Nat) (h : XH) : qM_readAll_59_b k59 a0 h = xrun BM_readAll (xfind [(59, ([0], wM_readAll_59 (k59)))]) 44 59 (List.zip [0] [.ref a0]) [] h := rfl
theorem tM_readAll_59_b {k59 : Nat → XH → XR} (hk59 : XTo cX9_readAll 1 RX9 0 7 155 59 [0] (wM_readAll_59 k59)) : XTo cX9_readAll 1 RX9 0 7 155 59 [0] (wM_readAll_59 (qM_readAll_59_b k59)) := by
  refine XTo.run (B := BM_readAll) (cut := xfind [(59, ([0], wM_readAll_59 (k59)))]) kM_readAll (xcuts_ok (List.forall_mem_cons.mpr ⟨hk59, fun _ h => absurd h List.not_mem_nil⟩)) 44 (fun vs st h r hr => ?_)
  unfold wM_readAll_59 at hr
  split at hr
  · exact (eM_readAll_59_b k59 _ _).symm.trans hr
  · cases hr
theorem tM_readAll_59 : ∀ n : Nat, XTo cX9_readAll 1 RX9 0 7 155 59 [0] (wM_readAll_59 (qM_readAll_59 n)) := by
  intro n
  induction n with
  | zero =>
    refine XTo.none fun vs st h => ?_
    unfold wM_readAll_59
    split <;> rfl
  | succ n ih => exact tM_readAll_59_b  ih
set_option maxRecDepth 100000 in
theorem eM_readAll_56 (a0 : Nat) (s0 : Int32) (s1 : Nat) (h : XH) : qM_readAll_56 a0 s0 s1 h = xrun BM_readAll (xfind [(59, ([0], wM_readAll_59 (qM_readAll_59 LF)))]) 44 56 (List.zip [0] [.ref a0]) [.int s0, .ref s1] h := rfl
theorem tM_readAll_56 : XTo cX9_readAll 1 RX9 0 7 155 56 [0] (wM_readAll_56 (qM_readAll_56)) := by
  refine XTo.run (B := BM_readAll) (cut := xfind [(59, ([0], wM_readAll_59 (qM_readAll_59 LF)))]) kM_readAll (xcuts_ok (List.forall_mem_cons.mpr ⟨tM_readAll_59 LF, fun _ h => absurd h List.not_mem_nil⟩)) 44 (fun vs st h r hr => ?_)
  unfold wM_readAll_56 at hr
  split at hr
  · exact (eM_readAll_56 _ _ _ _).symm.trans hr
  · cases hr
set_option maxRecDepth 100000 in
theorem eM_readAll (a0 : Nat) (h : XH) : qM_readAll a0 h = xrun BM_readAll (xfind [(56, ([0], wM_readAll_56 (qM_readAll_56)))]) 44 0 (List.zip [0] [.ref a0]) [] h := rfl
theorem tM_readAll : XTo cX9_readAll 1 RX9 0 7 155 0 [0] (wM_readAll (qM_readAll)) := by
  refine XTo.run (B := BM_readAll) (cut := xfind [(56, ([0], wM_readAll_56 (qM_readAll_56)))]) kM_readAll (xcuts_ok (List.forall_mem_cons.mpr ⟨tM_readAll_56, fun _ h => absurd h List.not_mem_nil⟩)) 44 (fun vs st h r hr => ?_)
  unfold wM_readAll at hr
  split at hr
  · exact (eM_readAll _ _).symm.trans hr
  · cases hr
def FM_readAll : List Value → XH → XR := fun vs h => match vs with
  | [.ref a0] => qM_readAll a0 h
  | _ => none
theorem SM_readAll : XS yX9_readAll cX9_readAll 1 none (xrm 7 155) FM_readAll := by
  refine XS.of (own := RX9) (by decide) rfl (rk := 0) rfl (tM_readAll) (fun vs h r hr => ?_)
  unfold FM_readAll at hr
  split at hr
  · exact ⟨rfl, Nat.le_of_ble_eq_true rfl, hr⟩
  · cases hr
-- LineDiagramModel.load()I
def rM_load : List (Nat × XRow) := [(0, (.aload_n 0, 1, 0, .null, [])),
  (1, (.bipush (-2), 3, 0, .int (-2 : Int32), [])),
  (3, (.putfield 13, 6, 13, .null, [])),
  (6, (.aload_n 0, 7, 0, .null, [])),
  (7, (.iconst 1, 8, 0, .int (1 : Int32), [])),
  (8, (.putfield 257, 11, 257, .null, [])),
  (11, (.aload_n 0, 12, 0, .null, [])),
  (12, (.iconst 0, 13, 0, .int (0 : Int32), [])),
  (13, (.putfield 208, 16, 208, .null, [])),
  (16, (.aload_n 0, 17, 0, .null, [])),
  (17, (.iconst 0, 18, 0, .int (0 : Int32), [])),
  (18, (.putfield 277, 21, 277, .null, [])),
  (21, (.aload_n 0, 22, 0, .null, [])),
  (22, (.invokevirtual 324, 25, 324, .null, [])),
  (25, (.aload_n 0, 26, 0, .null, [])),
  (26, (.iconst 0, 27, 0, .int (0 : Int32), [])),
  (27, (.putfield 211, 30, 211, .null, [])),
  (30, (.aload_n 0, 31, 0, .null, [])),
  (31, (.getfield 257, 34, 257, .null, [])),
  (34, (.ifCond .ne 5, 37, 39, .null, [])),
  (37, (.iconst (-1), 38, 0, .int (-1 : Int32), [])),
  (38, (.ireturn, 39, 0, .null, [])),
  (39, (.aload_n 0, 40, 0, .null, [])),
  (40, (.aload_n 0, 41, 0, .null, [])),
  (41, (.getfield 295, 44, 295, .null, [])),
  (44, (.putfield 73, 47, 73, .null, [])),
  (47, (.aload_n 0, 48, 0, .null, [])),
  (48, (.aload_n 0, 49, 0, .null, [])),
  (49, (.getfield 298, 52, 298, .null, [])),
  (52, (.putfield 76, 55, 76, .null, [])),
  (55, (.aload_n 0, 56, 0, .null, [])),
  (56, (.aload_n 0, 57, 0, .null, [])),
  (57, (.getfield 292, 60, 292, .null, [])),
  (60, (.putfield 79, 63, 79, .null, [])),
  (63, (.aload_n 0, 64, 0, .null, [])),
  (64, (.aload_n 0, 65, 0, .null, [])),
  (65, (.getfield 277, 68, 277, .null, [])),
  (68, (.putfield 100, 71, 100, .null, [])),
  (71, (.aload_n 0, 72, 0, .null, [])),
  (72, (.invokevirtual 82, 75, 82, .null, [])),
  (75, (.iconst 0, 76, 0, .int (0 : Int32), [])),
  (76, (.istore_n 1, 77, 1, .null, [])),
  (77, (.iload_n 1, 78, 1, .null, [])),
  (78, (.aload_n 0, 79, 0, .null, [])),
  (79, (.getfield 100, 82, 100, .null, [])),
  (82, (.if_icmp .ge 21, 85, 103, .null, [])),
  (85, (.aload_n 0, 86, 0, .null, [])),
  (86, (.getfield 17, 89, 17, .null, [])),
  (89, (.iload_n 1, 90, 1, .null, [])),
  (90, (.aload_n 0, 91, 0, .null, [])),
  (91, (.getfield 61, 94, 61, .null, [])),
  (94, (.iload_n 1, 95, 1, .null, [])),
  (95, (.iaload, 96, 0, .null, [])),
  (96, (.iastore, 97, 0, .null, [])),
  (97, (.iinc 1 1, 100, 1, .int (1 : Int32), [])),
  (100, (.goto (-23), 103, 77, .null, [])),
  (103, (.iconst 0, 104, 0, .int (0 : Int32), [])),
  (104, (.istore_n 1, 105, 1, .null, [])),
  (105, (.iload_n 1, 106, 1, .null, [])),
  (106, (.bipush 23, 108, 0, .int (23 : Int32), [])),
  (108, (.aload_n 0, 109, 0, .null, [])),
  (109, (.getfield 100, 112, 100, .null, [])),
  (112, (.imul, 113, 0, .null, [])),
  (113, (.if_icmp .ge 21, 116, 134, .null, [])),
  (116, (.aload_n 0, 117, 0, .null, [])),
  (117, (.getfield 21, 120, 21, .null, [])),
  (120, (.iload_n 1, 121, 1, .null, [])),
  (121, (.aload_n 0, 122, 0, .null, [])),
  (122, (.getfield 64, 125, 64, .null, [])),
  (125, (.iload_n 1, 126, 1, .null, [])),
  (126, (.iaload, 127, 0, .null, [])),
  (127, (.iastore, 128, 0, .null, [])),
  (128, (.iinc 1 1, 131, 1, .int (1 : Int32), [])),
  (131, (.goto (-26), 134, 105, .null, [])),
  (134, (.aload_n 0, 135, 0, .null, [])),
  (135, (.getfield 100, 138, 100, .null, [])),
  (138, (.ireturn, 139, 0, .null, []))]
def mM_load : List (Nat × XM) := [(82, (1, 0, some 9, FM_empties)), (324, (1, 0, some 9, FM_readAll))]
abbrev BM_load : XB := (rM_load, XFT_M, mM_load, 1, XST_M)
set_option maxRecDepth 100000 in
theorem kM_load : XOK BM_load cX9_load 2 RX9 8 175 := xok_of (cps := []) (K := XKT_M) (by decide +kernel) XKT_M_ok (fun _ h => absurd h List.not_mem_nil) XFT_M_ok (List.forall_mem_cons.mpr ⟨⟨_, _, _, _, _, _, _, SM_empties, rfl, rfl, Nat.le_of_ble_eq_true rfl, Nat.le_of_ble_eq_true rfl, cdM_empties, lkM_82, imM_empties, slM_empties, inM_empties, pmM_empties⟩, List.forall_mem_cons.mpr ⟨⟨_, _, _, _, _, _, _, SM_readAll, rfl, rfl, Nat.le_of_ble_eq_true rfl, Nat.le_of_ble_eq_true rfl, cdM_readAll, lkM_324, imM_readAll, slM_readAll, inM_readAll, pmM_readAll⟩, fun _ h => absurd h List.not_mem_nil⟩⟩) XST_M_ok
def wM_load_134 (f : Nat → XH → XR) : List Value → List Value → XH → XR := fun vs st h => match vs, st with
  | [.ref a0], [] => f a0 h
  | _, _ => none
def wM_load_105 (f : Nat → Int32 → XH → XR) : List Value → List Value → XH → XR := fun vs st h => match vs, st with
  | [.ref a0, .int x1], [] => f a0 x1 h
  | _, _ => none
def wM_load_77 (f : Nat → Int32 → XH → XR) : List Value → List Value → XH → XR := fun vs st h => match vs, st with
  | [.ref a0, .int x1], [] => f a0 x1 h
  | _, _ => none
def wM_load (f : Nat → XH → XR) : List Value → List Value → XH → XR := fun vs st h => match vs, st with
  | [.ref a0], [] => f a0 h
  | _, _ => none
set_option maxRecDepth 100000 in
theorem eM_load_134 (a0 : Nat) (h : XH) : qM_load_134 a0 h = xrun BM_load (xfind []) 80 134 (List.zip [0] [.ref a0]) [] h := rfl
theorem tM_load_134 : XTo cX9_load 2 RX9 1 8 175 134 [0] (wM_load_134 (qM_load_134)) := by
  refine XTo.run (B := BM_load) (cut := xfind []) kM_load (xcuts_ok (fun _ h => absurd h List.not_mem_nil)) 80 (fun vs st h r hr => ?_)
  unfold wM_load_134 at hr
  split at hr
  · exact (eM_load_134 _ _).symm.trans hr
  · cases hr
set_option maxRecDepth 100000 in
theorem eM_load_105_b (k105 : Nat → Int32 → XH → XR) (a0 : Nat) (x1 : Int32) (h : XH) : qM_load_105_b k105 a0 x1 h = xrun BM_load (xfind [(105, ([0, 1], wM_load_105 (k105))), (134, ([0], wM_load_134 (qM_load_134)))]) 80 105 (List.zip [0, 1] [.ref a0, .int x1]) [] h := rfl
theorem tM_load_105_b {k105 : Nat → Int32 → XH → XR} (hk105 : XTo cX9_load 2 RX9 1 8 175 105 [0, 1] (wM_load_105 k105)) : XTo cX9_load 2 RX9 1 8 175 105 [0, 1] (wM_load_105 (qM_load_105_b k105)) := by
  refine XTo.run (B := BM_load) (cut := xfind [(105, ([0, 1], wM_load_105 (k105))), (134, ([0], wM_load_134 (qM_load_134)))]) kM_load (xcuts_ok (List.forall_mem_cons.mpr ⟨hk105, List.forall_mem_cons.mpr ⟨tM_load_134, fun _ h => absurd h List.not_mem_nil⟩⟩)) 80 (fun vs st h r hr => ?_)
  unfold wM_load_105 at hr
  split at hr
  · exact (eM_load_105_b k105 _ _ _).symm.trans hr
  · cases hr
theorem tM_load_105 : ∀ n : Nat, XTo cX9_load 2 RX9 1 8 175 105 [0, 1] (wM_load_105 (qM_load_105 n)) := by
  intro n
  induction n with
  | zero =>
    refine XTo.none fun vs st h => ?_
    unfold wM_load_105
    split <;> rfl
  | succ n ih => exact tM_load_105_b  ih
set_option maxRecDepth 100000 in
theorem eM_load_77_b (k77 : Nat → Int32 → XH → XR) (a0 : Nat) (x1 : Int32) (h : XH) : qM_load_77_b k77 a0 x1 h = xrun BM_load (xfind [(77, ([0, 1], wM_load_77 (k77))), (105, ([0, 1], wM_load_105 (qM_load_105 LF)))]) 80 77 (List.zip [0, 1] [.ref a0, .int x1]) [] h := rfl
theorem tM_load_77_b {k77 : Nat → Int32 → XH → XR} (hk77 : XTo cX9_load 2 RX9 1 8 175 77 [0, 1] (wM_load_77 k77)) : XTo cX9_load 2 RX9 1 8 175 77 [0, 1] (wM_load_77 (qM_load_77_b k77)) := by
  refine XTo.run (B := BM_load) (cut := xfind [(77, ([0, 1], wM_load_77 (k77))), (105, ([0, 1], wM_load_105 (qM_load_105 LF)))]) kM_load (xcuts_ok (List.forall_mem_cons.mpr ⟨hk77, List.forall_mem_cons.mpr ⟨tM_load_105 LF, fun _ h => absurd h List.not_mem_nil⟩⟩)) 80 (fun vs st h r hr => ?_)
  unfold wM_load_77 at hr
  split at hr
  · exact (eM_load_77_b k77 _ _ _).symm.trans hr
  · cases hr
theorem tM_load_77 : ∀ n : Nat, XTo cX9_load 2 RX9 1 8 175 77 [0, 1] (wM_load_77 (qM_load_77 n)) := by
  intro n
  induction n with
  | zero =>
    refine XTo.none fun vs st h => ?_
    unfold wM_load_77
    split <;> rfl
  | succ n ih => exact tM_load_77_b  ih
set_option maxRecDepth 100000 in
theorem eM_load (a0 : Nat) (h : XH) : qM_load a0 h = xrun BM_load (xfind [(77, ([0, 1], wM_load_77 (qM_load_77 LF)))]) 80 0 (List.zip [0] [.ref a0]) [] h := rfl
theorem tM_load : XTo cX9_load 2 RX9 1 8 175 0 [0] (wM_load (qM_load)) := by
  refine XTo.run (B := BM_load) (cut := xfind [(77, ([0, 1], wM_load_77 (qM_load_77 LF)))]) kM_load (xcuts_ok (List.forall_mem_cons.mpr ⟨tM_load_77 LF, fun _ h => absurd h List.not_mem_nil⟩)) 80 (fun vs st h r hr => ?_)
  unfold wM_load at hr
  split at hr
  · exact (eM_load _ _).symm.trans hr
  · cases hr
def FM_load : List Value → XH → XR := fun vs h => match vs with
  | [.ref a0] => qM_load a0 h
  | _ => none
theorem SM_load : XS yX9_load cX9_load 2 (some .int) (xrm 8 175) FM_load := by
  refine XS.of (own := RX9) (by decide) rfl (rk := 1) rfl (tM_load) (fun vs h r hr => ?_)
  unfold FM_load at hr
  split at hr
  · exact ⟨rfl, Nat.le_of_ble_eq_true rfl, hr⟩
  · cases hr
-- LineDiagram.errorPosition()I
def rD_errorPosition : List (Nat × XRow) := [(0, (.aload_n 0, 1, 0, .null, [])),
  (1, (.getfield 72, 4, 72, .null, [])),
  (4, (.ireturn, 5, 0, .null, []))]
def mD_errorPosition : List (Nat × XM) := []
abbrev BD_errorPosition : XB := (rD_errorPosition, XFT_D, mD_errorPosition, 1, XST_D)
set_option maxRecDepth 100000 in
theorem kD_errorPosition : XOK BD_errorPosition cX8_errorPosition 1 RX8 0 0 := xok_of (cps := []) (K := XKT_D) (by decide +kernel) XKT_D_ok (fun _ h => absurd h List.not_mem_nil) XFT_D_ok (fun _ h => absurd h List.not_mem_nil) XST_D_ok
def wD_errorPosition (f : Nat → XH → XR) : List Value → List Value → XH → XR := fun vs st h => match vs, st with
  | [.ref a0], [] => f a0 h
  | _, _ => none
set_option maxRecDepth 100000 in
theorem eD_errorPosition (a0 : Nat) (h : XH) : qD_errorPosition a0 h = xrun BD_errorPosition (xfind []) 6 0 (List.zip [0] [.ref a0]) [] h := rfl
theorem tD_errorPosition : XTo cX8_errorPosition 1 RX8 1 0 0 0 [0] (wD_errorPosition (qD_errorPosition)) := by
  refine XTo.run (B := BD_errorPosition) (cut := xfind []) kD_errorPosition (xcuts_ok (fun _ h => absurd h List.not_mem_nil)) 6 (fun vs st h r hr => ?_)
  unfold wD_errorPosition at hr
  split at hr
  · exact (eD_errorPosition _ _).symm.trans hr
  · cases hr
def FD_errorPosition : List Value → XH → XR := fun vs h => match vs with
  | [.ref a0] => qD_errorPosition a0 h
  | _ => none
theorem SD_errorPosition : XS yX8_errorPosition cX8_errorPosition 1 (some .int) (xrm 0 0) FD_errorPosition := by
  refine XS.of (own := RX8) (by decide) rfl (rk := 1) rfl (tD_errorPosition) (fun vs h r hr => ?_)
  unfold FD_errorPosition at hr
  split at hr
  · exact ⟨rfl, Nat.le_of_ble_eq_true rfl, hr⟩
  · cases hr
-- LineDiagramModel.errorPosition()I
def rM_errorPosition : List (Nat × XRow) := [(0, (.aload_n 0, 1, 0, .null, [])),
  (1, (.getfield 13, 4, 13, .null, [])),
  (4, (.ireturn, 5, 0, .null, []))]
def mM_errorPosition : List (Nat × XM) := []
abbrev BM_errorPosition : XB := (rM_errorPosition, XFT_M, mM_errorPosition, 1, XST_M)
set_option maxRecDepth 100000 in
theorem kM_errorPosition : XOK BM_errorPosition cX9_errorPosition 1 RX9 0 0 := xok_of (cps := []) (K := XKT_M) (by decide +kernel) XKT_M_ok (fun _ h => absurd h List.not_mem_nil) XFT_M_ok (fun _ h => absurd h List.not_mem_nil) XST_M_ok
def wM_errorPosition (f : Nat → XH → XR) : List Value → List Value → XH → XR := fun vs st h => match vs, st with
  | [.ref a0], [] => f a0 h
  | _, _ => none
set_option maxRecDepth 100000 in
theorem eM_errorPosition (a0 : Nat) (h : XH) : qM_errorPosition a0 h = xrun BM_errorPosition (xfind []) 6 0 (List.zip [0] [.ref a0]) [] h := rfl
theorem tM_errorPosition : XTo cX9_errorPosition 1 RX9 1 0 0 0 [0] (wM_errorPosition (qM_errorPosition)) := by
  refine XTo.run (B := BM_errorPosition) (cut := xfind []) kM_errorPosition (xcuts_ok (fun _ h => absurd h List.not_mem_nil)) 6 (fun vs st h r hr => ?_)
  unfold wM_errorPosition at hr
  split at hr
  · exact (eM_errorPosition _ _).symm.trans hr
  · cases hr
def FM_errorPosition : List Value → XH → XR := fun vs h => match vs with
  | [.ref a0] => qM_errorPosition a0 h
  | _ => none
theorem SM_errorPosition : XS yX9_errorPosition cX9_errorPosition 1 (some .int) (xrm 0 0) FM_errorPosition := by
  refine XS.of (own := RX9) (by decide) rfl (rk := 1) rfl (tM_errorPosition) (fun vs h r hr => ?_)
  unfold FM_errorPosition at hr
  split at hr
  · exact ⟨rfl, Nat.le_of_ble_eq_true rfl, hr⟩
  · cases hr
-- LineDiagram.isCell(II)Z
def rD_isCell : List (Nat × XRow) := [(0, (.iload_n 1, 1, 1, .null, [])),
  (1, (.ifCond .lt 33, 4, 34, .null, [])),
  (4, (.iload_n 1, 5, 1, .null, [])),
  (5, (.aload_n 0, 6, 0, .null, [])),
  (6, (.getfield 29, 9, 29, .null, [])),
  (9, (.getfield 209, 12, 209, .null, [])),
  (12, (.if_icmp .ge 22, 15, 34, .null, [])),
  (15, (.iload_n 2, 16, 2, .null, [])),
  (16, (.ifCond .lt 18, 19, 34, .null, [])),
  (19, (.iload_n 2, 20, 2, .null, [])),
  (20, (.aload_n 0, 21, 0, .null, [])),
  (21, (.getfield 29, 24, 29, .null, [])),
  (24, (.getfield 212, 27, 212, .null, [])),
  (27, (.if_icmp .ge 7, 30, 34, .null, [])),
  (30, (.iconst 1, 31, 0, .int (1 : Int32), [])),
  (31, (.goto 4, 34, 35, .null, [])),
  (34, (.iconst 0, 35, 0, .int (0 : Int32), [])),
  (35, (.ireturn, 36, 0, .null, []))]
def mD_isCell : List (Nat × XM) := []
abbrev BD_isCell : XB := (rD_isCell, XFT_D, mD_isCell, 6, XST_D)
set_option maxRecDepth 100000 in
theorem kD_isCell : XOK BD_isCell cX8_isCell 3 RX8 0 0 := xok_of (cps := []) (K := XKT_D) (by decide +kernel) XKT_D_ok (fun _ h => absurd h List.not_mem_nil) XFT_D_ok (fun _ h => absurd h List.not_mem_nil) XST_D_ok
def wD_isCell (f : Nat → Int32 → Int32 → XH → XR) : List Value → List Value → XH → XR := fun vs st h => match vs, st with
  | [.ref a0, .int x1, .int x2], [] => f a0 x1 x2 h
  | _, _ => none
set_option maxRecDepth 100000 in
theorem eD_isCell (a0 : Nat) (x1 : Int32) (x2 : Int32) (h : XH) : qD_isCell a0 x1 x2 h = xrun BD_isCell (xfind []) 21 0 (List.zip [0, 1, 2] [.ref a0, .int x1, .int x2]) [] h := rfl
theorem tD_isCell : XTo cX8_isCell 3 RX8 6 0 0 0 [0, 1, 2] (wD_isCell (qD_isCell)) := by
  refine XTo.run (B := BD_isCell) (cut := xfind []) kD_isCell (xcuts_ok (fun _ h => absurd h List.not_mem_nil)) 21 (fun vs st h r hr => ?_)
  unfold wD_isCell at hr
  split at hr
  · exact (eD_isCell _ _ _ _).symm.trans hr
  · cases hr
def FD_isCell : List Value → XH → XR := fun vs h => match vs with
  | [.ref a0, .int x1, .int x2] => qD_isCell a0 x1 x2 h
  | _ => none
theorem SD_isCell : XS yX8_isCell cX8_isCell 3 (some .boolean) (xrm 0 0) FD_isCell := by
  refine XS.of (own := RX8) (by decide) rfl (rk := 6) rfl (tD_isCell) (fun vs h r hr => ?_)
  unfold FD_isCell at hr
  split at hr
  · exact ⟨rfl, Nat.le_of_ble_eq_true rfl, hr⟩
  · cases hr
-- LineDiagram.isLine(I)Z
def rD_isLine : List (Nat × XRow) := [(0, (.iload_n 1, 1, 1, .null, [])),
  (1, (.ifCond .lt 18, 4, 19, .null, [])),
  (4, (.iload_n 1, 5, 1, .null, [])),
  (5, (.aload_n 0, 6, 0, .null, [])),
  (6, (.getfield 29, 9, 29, .null, [])),
  (9, (.getfield 104, 12, 104, .null, [])),
  (12, (.if_icmp .ge 7, 15, 19, .null, [])),
  (15, (.iconst 1, 16, 0, .int (1 : Int32), [])),
  (16, (.goto 4, 19, 20, .null, [])),
  (19, (.iconst 0, 20, 0, .int (0 : Int32), [])),
  (20, (.ireturn, 21, 0, .null, []))]
def mD_isLine : List (Nat × XM) := []
abbrev BD_isLine : XB := (rD_isLine, XFT_D, mD_isLine, 6, XST_D)
set_option maxRecDepth 100000 in
theorem kD_isLine : XOK BD_isLine cX8_isLine 2 RX8 0 0 := xok_of (cps := []) (K := XKT_D) (by decide +kernel) XKT_D_ok (fun _ h => absurd h List.not_mem_nil) XFT_D_ok (fun _ h => absurd h List.not_mem_nil) XST_D_ok
def wD_isLine (f : Nat → Int32 → XH → XR) : List Value → List Value → XH → XR := fun vs st h => match vs, st with
  | [.ref a0, .int x1], [] => f a0 x1 h
  | _, _ => none
set_option maxRecDepth 100000 in
theorem eD_isLine (a0 : Nat) (x1 : Int32) (h : XH) : qD_isLine a0 x1 h = xrun BD_isLine (xfind []) 14 0 (List.zip [0, 1] [.ref a0, .int x1]) [] h := rfl
theorem tD_isLine : XTo cX8_isLine 2 RX8 6 0 0 0 [0, 1] (wD_isLine (qD_isLine)) := by
  refine XTo.run (B := BD_isLine) (cut := xfind []) kD_isLine (xcuts_ok (fun _ h => absurd h List.not_mem_nil)) 14 (fun vs st h r hr => ?_)
  unfold wD_isLine at hr
  split at hr
  · exact (eD_isLine _ _ _).symm.trans hr
  · cases hr
def FD_isLine : List Value → XH → XR := fun vs h => match vs with
  | [.ref a0, .int x1] => qD_isLine a0 x1 h
  | _ => none
theorem SD_isLine : XS yX8_isLine cX8_isLine 2 (some .boolean) (xrm 0 0) FD_isLine := by
  refine XS.of (own := RX8) (by decide) rfl (rk := 6) rfl (tD_isLine) (fun vs h r hr => ?_)
  unfold FD_isLine at hr
  split at hr
  · exact ⟨rfl, Nat.le_of_ble_eq_true rfl, hr⟩
  · cases hr
-- LineDiagram.isPoint(II)Z
def rD_isPoint : List (Nat × XRow) := [(0, (.aload_n 0, 1, 0, .null, [])),
  (1, (.iload_n 1, 2, 1, .null, [])),
  (2, (.invokevirtual 115, 5, 115, .null, [])),
  (5, (.ifCond .eq 27, 8, 32, .null, [])),
  (8, (.iload_n 2, 9, 2, .null, [])),
  (9, (.ifCond .lt 23, 12, 32, .null, [])),
  (12, (.iload_n 2, 13, 2, .null, [])),
  (13, (.aload_n 0, 14, 0, .null, [])),
  (14, (.getfield 29, 17, 29, .null, [])),
  (17, (.getfield 123, 20, 123, .null, [])),
  (20, (.iload_n 1, 21, 1, .null, [])),
  (21, (.aaload, 22, 0, .null, [])),
  (22, (.getfield 127, 25, 127, .null, [])),
  (25, (.if_icmp .ge 7, 28, 32, .null, [])),
  (28, (.iconst 1, 29, 0, .int (1 : Int32), [])),
  (29, (.goto 4, 32, 33, .null, [])),
  (32, (.iconst 0, 33, 0, .int (0 : Int32), [])),
  (33, (.ireturn, 34, 0, .null, []))]
def mD_isPoint : List (Nat × XM) := [(115, (2, 1, some 8, FD_isLine))]
abbrev BD_isPoint : XB := (rD_isPoint, XFT_D, mD_isPoint, 6, XST_D)
set_option maxRecDepth 100000 in
theorem kD_isPoint : XOK BD_isPoint cX8_isPoint 3 RX8 1 21 := xok_of (cps := []) (K := XKT_D) (by decide +kernel) XKT_D_ok (fun _ h => absurd h List.not_mem_nil) XFT_D_ok (List.forall_mem_cons.mpr ⟨⟨_, _, _, _, _, _, _, SD_isLine, rfl, rfl, Nat.le_of_ble_eq_true rfl, Nat.le_of_ble_eq_true rfl, cdD_isLine, lkD_115, imD_isLine, slD_isLine, inD_isLine, pmD_isLine⟩, fun _ h => absurd h List.not_mem_nil⟩) XST_D_ok
def wD_isPoint (f : Nat → Int32 → Int32 → XH → XR) : List Value → List Value → XH → XR := fun vs st h => match vs, st with
  | [.ref a0, .int x1, .int x2], [] => f a0 x1 x2 h
  | _, _ => none
set_option maxRecDepth 100000 in
theorem eD_isPoint (a0 : Nat) (x1 : Int32) (x2 : Int32) (h : XH) : qD_isPoint a0 x1 x2 h = xrun BD_isPoint (xfind []) 21 0 (List.zip [0, 1, 2] [.ref a0, .int x1, .int x2]) [] h := rfl
theorem tD_isPoint : XTo cX8_isPoint 3 RX8 6 1 21 0 [0, 1, 2] (wD_isPoint (qD_isPoint)) := by
  refine XTo.run (B := BD_isPoint) (cut := xfind []) kD_isPoint (xcuts_ok (fun _ h => absurd h List.not_mem_nil)) 21 (fun vs st h r hr => ?_)
  unfold wD_isPoint at hr
  split at hr
  · exact (eD_isPoint _ _ _ _).symm.trans hr
  · cases hr
def FD_isPoint : List Value → XH → XR := fun vs h => match vs with
  | [.ref a0, .int x1, .int x2] => qD_isPoint a0 x1 x2 h
  | _ => none
theorem SD_isPoint : XS yX8_isPoint cX8_isPoint 3 (some .boolean) (xrm 1 21) FD_isPoint := by
  refine XS.of (own := RX8) (by decide) rfl (rk := 6) rfl (tD_isPoint) (fun vs h r hr => ?_)
  unfold FD_isPoint at hr
  split at hr
  · exact ⟨rfl, Nat.le_of_ble_eq_true rfl, hr⟩
  · cases hr
-- LineDiagram$Line.refusal(I)I
def rLn_refusal : List (Nat × XRow) := [(0, (.aload_n 0, 1, 0, .null, [])),
  (1, (.iload_n 1, 2, 1, .null, [])),
  (2, (.invokevirtual 69, 5, 69, .null, [])),
  (5, (.ifCond .eq 6, 8, 11, .null, [])),
  (8, (.bipush (-3), 10, 0, .int (-3 : Int32), [])),
  (10, (.ireturn, 11, 0, .null, [])),
  (11, (.aload_n 0, 12, 0, .null, [])),
  (12, (.invokevirtual 73, 15, 73, .null, [])),
  (15, (.ifCond .eq 8, 18, 23, .null, [])),
  (18, (.bipush (-4), 20, 0, .int (-4 : Int32), [])),
  (20, (.goto 4, 23, 24, .null, [])),
  (23, (.iconst 0, 24, 0, .int (0 : Int32), [])),
  (24, (.ireturn, 25, 0, .null, []))]
def mLn_refusal : List (Nat × XM) := [(69, (2, 1, some 3, FLn_isCrooked)), (73, (1, 1, some 3, FLn_isShort))]
abbrev BLn_refusal : XB := (rLn_refusal, XFT_Ln, mLn_refusal, 1, XST_Ln)
set_option maxRecDepth 100000 in
theorem kLn_refusal : XOK BLn_refusal cX3_refusal 2 RX3 4 88 := xok_of (cps := []) (K := XKT_Ln) (by decide +kernel) XKT_Ln_ok (fun _ h => absurd h List.not_mem_nil) XFT_Ln_ok (List.forall_mem_cons.mpr ⟨⟨_, _, _, _, _, _, _, SLn_isCrooked, rfl, rfl, Nat.le_of_ble_eq_true rfl, Nat.le_of_ble_eq_true rfl, cdLn_isCrooked, lkLn_69, imLn_isCrooked, slLn_isCrooked, inLn_isCrooked, pmLn_isCrooked⟩, List.forall_mem_cons.mpr ⟨⟨_, _, _, _, _, _, _, SLn_isShort, rfl, rfl, Nat.le_of_ble_eq_true rfl, Nat.le_of_ble_eq_true rfl, cdLn_isShort, lkLn_73, imLn_isShort, slLn_isShort, inLn_isShort, pmLn_isShort⟩, fun _ h => absurd h List.not_mem_nil⟩⟩) XST_Ln_ok
def wLn_refusal (f : Nat → Int32 → XH → XR) : List Value → List Value → XH → XR := fun vs st h => match vs, st with
  | [.ref a0, .int x1], [] => f a0 x1 h
  | _, _ => none
set_option maxRecDepth 100000 in
theorem eLn_refusal (a0 : Nat) (x1 : Int32) (h : XH) : qLn_refusal a0 x1 h = xrun BLn_refusal (xfind []) 16 0 (List.zip [0, 1] [.ref a0, .int x1]) [] h := rfl
theorem tLn_refusal : XTo cX3_refusal 2 RX3 1 4 88 0 [0, 1] (wLn_refusal (qLn_refusal)) := by
  refine XTo.run (B := BLn_refusal) (cut := xfind []) kLn_refusal (xcuts_ok (fun _ h => absurd h List.not_mem_nil)) 16 (fun vs st h r hr => ?_)
  unfold wLn_refusal at hr
  split at hr
  · exact (eLn_refusal _ _ _).symm.trans hr
  · cases hr
def FLn_refusal : List Value → XH → XR := fun vs h => match vs with
  | [.ref a0, .int x1] => qLn_refusal a0 x1 h
  | _ => none
theorem SLn_refusal : XS yX3_refusal cX3_refusal 2 (some .int) (xrm 4 88) FLn_refusal := by
  refine XS.of (own := RX3) (by decide) rfl (rk := 1) rfl (tLn_refusal) (fun vs h r hr => ?_)
  unfold FLn_refusal at hr
  split at hr
  · exact ⟨rfl, Nat.le_of_ble_eq_true rfl, hr⟩
  · cases hr
-- LineDiagram.tryMove(IIII)I
def rD_tryMove : List (Nat × XRow) := [(0, (.aload_n 0, 1, 0, .null, [])),
  (1, (.iload_n 1, 2, 1, .null, [])),
  (2, (.iload_n 2, 3, 2, .null, [])),
  (3, (.invokevirtual 136, 6, 136, .null, [])),
  (6, (.ifCond .eq 13, 9, 19, .null, [])),
  (9, (.aload_n 0, 10, 0, .null, [])),
  (10, (.iload_n 3, 11, 3, .null, [])),
  (11, (.iload 4, 13, 4, .null, [])),
  (13, (.invokevirtual 119, 16, 119, .null, [])),
  (16, (.ifCond .ne 5, 19, 21, .null, [])),
  (19, (.iconst (-1), 20, 0, .int (-1 : Int32), [])),
  (20, (.ireturn, 21, 0, .null, [])),
  (21, (.aload_n 0, 22, 0, .null, [])),
  (22, (.getfield 68, 25, 68, .null, [])),
  (25, (.aload_n 0, 26, 0, .null, [])),
  (26, (.getfield 29, 29, 29, .null, [])),
  (29, (.getfield 123, 32, 123, .null, [])),
  (32, (.iload_n 1, 33, 1, .null, [])),
  (33, (.aaload, 34, 0, .null, [])),
  (34, (.invokevirtual 130, 37, 130, .null, [])),
  (37, (.aload_n 0, 38, 0, .null, [])),
  (38, (.getfield 68, 41, 68, .null, [])),
  (41, (.getfield 257, 44, 257, .null, [])),
  (44, (.iload_n 2, 45, 2, .null, [])),
  (45, (.iaload, 46, 0, .null, [])),
  (46, (.iload_n 3, 47, 3, .null, [])),
  (47, (.if_icmp .ne 20, 50, 67, .null, [])),
  (50, (.aload_n 0, 51, 0, .null, [])),
  (51, (.getfield 68, 54, 68, .null, [])),
  (54, (.getfield 260, 57, 260, .null, [])),
  (57, (.iload_n 2, 58, 2, .null, [])),
  (58, (.iaload, 59, 0, .null, [])),
  (59, (.iload 4, 61, 4, .null, [])),
  (61, (.if_icmp .ne 6, 64, 67, .null, [])),
  (64, (.bipush (-2), 66, 0, .int (-2 : Int32), [])),
  (66, (.ireturn, 67, 0, .null, [])),
  (67, (.aload_n 0, 68, 0, .null, [])),
  (68, (.getfield 68, 71, 68, .null, [])),
  (71, (.getfield 257, 74, 257, .null, [])),
  (74, (.iload_n 2, 75, 2, .null, [])),
  (75, (.iload_n 3, 76, 3, .null, [])),
  (76, (.iastore, 77, 0, .null, [])),
  (77, (.aload_n 0, 78, 0, .null, [])),
  (78, (.getfield 68, 81, 68, .null, [])),
  (81, (.getfield 260, 84, 260, .null, [])),
  (84, (.iload_n 2, 85, 2, .null, [])),
  (85, (.iload 4, 87, 4, .null, [])),
  (87, (.iastore, 88, 0, .null, [])),
  (88, (.aload_n 0, 89, 0, .null, [])),
  (89, (.getfield 68, 92, 68, .null, [])),
  (92, (.aload_n 0, 93, 0, .null, [])),
  (93, (.getfield 29, 96, 29, .null, [])),
  (96, (.getfield 215, 99, 215, .null, [])),
  (99, (.invokevirtual 352, 102, 352, .null, [])),
  (102, (.ireturn, 103, 0, .null, []))]
def mD_tryMove : List (Nat × XM) := [(119, (3, 1, some 8, FD_isCell)), (130, (2, 0, some 3, FLn_copyFrom)), (136, (3, 1, some 8, FD_isPoint)), (352, (2, 1, some 3, FLn_refusal))]
abbrev BD_tryMove : XB := (rD_tryMove, XFT_D, mD_tryMove, 1, XST_D)
set_option maxRecDepth 100000 in
theorem kD_tryMove : XOK BD_tryMove cX8_tryMove 5 RX8 5 109 := xok_of (cps := []) (K := XKT_D) (by decide +kernel) XKT_D_ok (fun _ h => absurd h List.not_mem_nil) XFT_D_ok (List.forall_mem_cons.mpr ⟨⟨_, _, _, _, _, _, _, SD_isCell, rfl, rfl, Nat.le_of_ble_eq_true rfl, Nat.le_of_ble_eq_true rfl, cdD_isCell, lkD_119, imD_isCell, slD_isCell, inD_isCell, pmD_isCell⟩, List.forall_mem_cons.mpr ⟨⟨_, _, _, _, _, _, _, SLn_copyFrom, rfl, rfl, Nat.le_of_ble_eq_true rfl, Nat.le_of_ble_eq_true rfl, cdLn_copyFrom, lkD_130, imLn_copyFrom, slLn_copyFrom, inLn_copyFrom, pmLn_copyFrom⟩, List.forall_mem_cons.mpr ⟨⟨_, _, _, _, _, _, _, SD_isPoint, rfl, rfl, Nat.le_of_ble_eq_true rfl, Nat.le_of_ble_eq_true rfl, cdD_isPoint, lkD_136, imD_isPoint, slD_isPoint, inD_isPoint, pmD_isPoint⟩, List.forall_mem_cons.mpr ⟨⟨_, _, _, _, _, _, _, SLn_refusal, rfl, rfl, Nat.le_of_ble_eq_true rfl, Nat.le_of_ble_eq_true rfl, cdLn_refusal, lkD_352, imLn_refusal, slLn_refusal, inLn_refusal, pmLn_refusal⟩, fun _ h => absurd h List.not_mem_nil⟩⟩⟩⟩) XST_D_ok
def wD_tryMove_67 (f : Nat → Int32 → Int32 → Int32 → XH → XR) : List Value → List Value → XH → XR := fun vs st h => match vs, st with
  | [.ref a0, .int x2, .int x3, .int x4], [] => f a0 x2 x3 x4 h
  | _, _ => none
def wD_tryMove (f : Nat → Int32 → Int32 → Int32 → Int32 → XH → XR) : List Value → List Value → XH → XR := fun vs st h => match vs, st with
  | [.ref a0, .int x1, .int x2, .int x3, .int x4], [] => f a0 x1 x2 x3 x4 h
  | _, _ => none
set_option maxRecDepth 100000 in
theorem eD_tryMove_67 (a0 : Nat) (x2 : Int32) (x3 : Int32) (x4 : Int32) (h : XH) : qD_tryMove_67 a0 x2 x3 x4 h = xrun BD_tryMove (xfind []) 58 67 (List.zip [0, 2, 3, 4] [.ref a0, .int x2, .int x3, .int x4]) [] h := rfl
theorem tD_tryMove_67 : XTo cX8_tryMove 5 RX8 1 5 109 67 [0, 2, 3, 4] (wD_tryMove_67 (qD_tryMove_67)) := by
  refine XTo.run (B := BD_tryMove) (cut := xfind []) kD_tryMove (xcuts_ok (fun _ h => absurd h List.not_mem_nil)) 58 (fun vs st h r hr => ?_)
  unfold wD_tryMove_67 at hr
  split at hr
  · exact (eD_tryMove_67 _ _ _ _ _).symm.trans hr
  · cases hr
set_option maxRecDepth 100000 in
theorem eD_tryMove (a0 : Nat) (x1 : Int32) (x2 : Int32) (x3 : Int32) (x4 : Int32) (h : XH) : qD_tryMove a0 x1 x2 x3 x4 h = xrun BD_tryMove (xfind [(67, ([0, 2, 3, 4], wD_tryMove_67 (qD_tryMove_67)))]) 58 0 (List.zip [0, 1, 2, 3, 4] [.ref a0, .int x1, .int x2, .int x3, .int x4]) [] h := rfl
theorem tD_tryMove : XTo cX8_tryMove 5 RX8 1 5 109 0 [0, 1, 2, 3, 4] (wD_tryMove (qD_tryMove)) := by
  refine XTo.run (B := BD_tryMove) (cut := xfind [(67, ([0, 2, 3, 4], wD_tryMove_67 (qD_tryMove_67)))]) kD_tryMove (xcuts_ok (List.forall_mem_cons.mpr ⟨tD_tryMove_67, fun _ h => absurd h List.not_mem_nil⟩)) 58 (fun vs st h r hr => ?_)
  unfold wD_tryMove at hr
  split at hr
  · exact (eD_tryMove _ _ _ _ _ _).symm.trans hr
  · cases hr
def FD_tryMove : List Value → XH → XR := fun vs h => match vs with
  | [.ref a0, .int x1, .int x2, .int x3, .int x4] => qD_tryMove a0 x1 x2 x3 x4 h
  | _ => none
theorem SD_tryMove : XS yX8_tryMove cX8_tryMove 5 (some .int) (xrm 5 109) FD_tryMove := by
  refine XS.of (own := RX8) (by decide) rfl (rk := 1) rfl (tD_tryMove) (fun vs h r hr => ?_)
  unfold FD_tryMove at hr
  split at hr
  · exact ⟨rfl, Nat.le_of_ble_eq_true rfl, hr⟩
  · cases hr
-- LineDiagram$History.push(LLineDiagram$Plan;)V
def rH_push : List (Nat × XRow) := [(0, (.aload_n 0, 1, 0, .null, [])),
  (1, (.getfield 11, 4, 11, .null, [])),
  (4, (.aload_n 0, 5, 0, .null, [])),
  (5, (.getfield 22, 8, 22, .null, [])),
  (8, (.aaload, 9, 0, .null, [])),
  (9, (.aload_n 1, 10, 1, .null, [])),
  (10, (.invokevirtual 25, 13, 25, .null, [])),
  (13, (.aload_n 0, 14, 0, .null, [])),
  (14, (.aload_n 0, 15, 0, .null, [])),
  (15, (.getfield 22, 18, 22, .null, [])),
  (18, (.iconst 1, 19, 0, .int (1 : Int32), [])),
  (19, (.iadd, 20, 0, .null, [])),
  (20, (.bipush 8, 22, 0, .int (8 : Int32), [])),
  (22, (.irem, 23, 0, .null, [])),
  (23, (.putfield 22, 26, 22, .null, [])),
  (26, (.aload_n 0, 27, 0, .null, [])),
  (27, (.aload_n 0, 28, 0, .null, [])),
  (28, (.getfield 18, 31, 18, .null, [])),
  (31, (.iconst 1, 32, 0, .int (1 : Int32), [])),
  (32, (.iadd, 33, 0, .null, [])),
  (33, (.bipush 8, 35, 0, .int (8 : Int32), [])),
  (35, (.invokestatic 29, 38, 29, .int (3 : Int32), [])),
  (38, (.putfield 18, 41, 18, .null, [])),
  (41, (.return_, 42, 0, .null, []))]
def mH_push : List (Nat × XM) := [(25, (2, 0, some 5, FP_copyFrom))]
abbrev BH_push : XB := (rH_push, XFT_H, mH_push, 0, XST_H)
set_option maxRecDepth 100000 in
theorem kH_push : XOK BH_push cX1_push 2 RX1 3 107 := xok_of (cps := [(29, 3)]) (K := XKT_H) (by decide +kernel) XKT_H_ok (List.forall_mem_cons.mpr ⟨lkH_cp29 _ _ (Nat.le_of_ble_eq_true rfl) (Nat.le_of_ble_eq_true rfl), fun _ h => absurd h List.not_mem_nil⟩) XFT_H_ok (List.forall_mem_cons.mpr ⟨⟨_, _, _, _, _, _, _, SP_copyFrom, rfl, rfl, Nat.le_of_ble_eq_true rfl, Nat.le_of_ble_eq_true rfl, cdP_copyFrom, lkH_25, imP_copyFrom, slP_copyFrom, inP_copyFrom, pmP_copyFrom⟩, fun _ h => absurd h List.not_mem_nil⟩) XST_H_ok
def wH_push (f : Nat → Nat → XH → XR) : List Value → List Value → XH → XR := fun vs st h => match vs, st with
  | [.ref a0, .ref a1], [] => f a0 a1 h
  | _, _ => none
set_option maxRecDepth 100000 in
theorem eH_push (a0 : Nat) (a1 : Nat) (h : XH) : qH_push a0 a1 h = xrun BH_push (xfind []) 27 0 (List.zip [0, 1] [.ref a0, .ref a1]) [] h := rfl
theorem tH_push : XTo cX1_push 2 RX1 0 3 107 0 [0, 1] (wH_push (qH_push)) := by
  refine XTo.run (B := BH_push) (cut := xfind []) kH_push (xcuts_ok (fun _ h => absurd h List.not_mem_nil)) 27 (fun vs st h r hr => ?_)
  unfold wH_push at hr
  split at hr
  · exact (eH_push _ _ _).symm.trans hr
  · cases hr
def FH_push : List Value → XH → XR := fun vs h => match vs with
  | [.ref a0, .ref a1] => qH_push a0 a1 h
  | _ => none
theorem SH_push : XS yX1_push cX1_push 2 none (xrm 3 107) FH_push := by
  refine XS.of (own := RX1) (by decide) rfl (rk := 0) rfl (tH_push) (fun vs h r hr => ?_)
  unfold FH_push at hr
  split at hr
  · exact ⟨rfl, Nat.le_of_ble_eq_true rfl, hr⟩
  · cases hr
-- LineDiagram.columnOf(I)I
def rD_columnOf : List (Nat × XRow) := [(0, (.iload_n 0, 1, 0, .null, [])),
  (1, (.bipush 40, 3, 0, .int (40 : Int32), [])),
  (3, (.irem, 4, 0, .null, [])),
  (4, (.ireturn, 5, 0, .null, []))]
def mD_columnOf : List (Nat × XM) := []
abbrev BD_columnOf : XB := (rD_columnOf, XFT_D, mD_columnOf, 1, XST_D)
set_option maxRecDepth 100000 in
theorem kD_columnOf : XOK BD_columnOf cX8_columnOf 1 RX8 0 0 := xok_of (cps := []) (K := XKT_D) (by decide +kernel) XKT_D_ok (fun _ h => absurd h List.not_mem_nil) XFT_D_ok (fun _ h => absurd h List.not_mem_nil) XST_D_ok
def wD_columnOf (f : Int32 → XH → XR) : List Value → List Value → XH → XR := fun vs st h => match vs, st with
  | [.int x0], [] => f x0 h
  | _, _ => none
set_option maxRecDepth 100000 in
theorem eD_columnOf (x0 : Int32) (h : XH) : qD_columnOf x0 h = xrun BD_columnOf (xfind []) 7 0 (List.zip [0] [.int x0]) [] h := rfl
theorem tD_columnOf : XTo cX8_columnOf 1 RX8 1 0 0 0 [0] (wD_columnOf (qD_columnOf)) := by
  refine XTo.run (B := BD_columnOf) (cut := xfind []) kD_columnOf (xcuts_ok (fun _ h => absurd h List.not_mem_nil)) 7 (fun vs st h r hr => ?_)
  unfold wD_columnOf at hr
  split at hr
  · exact (eD_columnOf _ _).symm.trans hr
  · cases hr
def FD_columnOf : List Value → XH → XR := fun vs h => match vs with
  | [.int x0] => qD_columnOf x0 h
  | _ => none
theorem SD_columnOf : XS yX8_columnOf cX8_columnOf 1 (some .int) (xrm 0 0) FD_columnOf := by
  refine XS.of (own := RX8) (by decide) rfl (rk := 1) rfl (tD_columnOf) (fun vs h r hr => ?_)
  unfold FD_columnOf at hr
  split at hr
  · exact ⟨rfl, Nat.le_of_ble_eq_true rfl, hr⟩
  · cases hr
-- LineDiagram.rowOf(I)I
def rD_rowOf : List (Nat × XRow) := [(0, (.iload_n 0, 1, 0, .null, [])),
  (1, (.bipush 40, 3, 0, .int (40 : Int32), [])),
  (3, (.idiv, 4, 0, .null, [])),
  (4, (.ireturn, 5, 0, .null, []))]
def mD_rowOf : List (Nat × XM) := []
abbrev BD_rowOf : XB := (rD_rowOf, XFT_D, mD_rowOf, 1, XST_D)
set_option maxRecDepth 100000 in
theorem kD_rowOf : XOK BD_rowOf cX8_rowOf 1 RX8 0 0 := xok_of (cps := []) (K := XKT_D) (by decide +kernel) XKT_D_ok (fun _ h => absurd h List.not_mem_nil) XFT_D_ok (fun _ h => absurd h List.not_mem_nil) XST_D_ok
def wD_rowOf (f : Int32 → XH → XR) : List Value → List Value → XH → XR := fun vs st h => match vs, st with
  | [.int x0], [] => f x0 h
  | _, _ => none
set_option maxRecDepth 100000 in
theorem eD_rowOf (x0 : Int32) (h : XH) : qD_rowOf x0 h = xrun BD_rowOf (xfind []) 7 0 (List.zip [0] [.int x0]) [] h := rfl
theorem tD_rowOf : XTo cX8_rowOf 1 RX8 1 0 0 0 [0] (wD_rowOf (qD_rowOf)) := by
  refine XTo.run (B := BD_rowOf) (cut := xfind []) kD_rowOf (xcuts_ok (fun _ h => absurd h List.not_mem_nil)) 7 (fun vs st h r hr => ?_)
  unfold wD_rowOf at hr
  split at hr
  · exact (eD_rowOf _ _).symm.trans hr
  · cases hr
def FD_rowOf : List Value → XH → XR := fun vs h => match vs with
  | [.int x0] => qD_rowOf x0 h
  | _ => none
theorem SD_rowOf : XS yX8_rowOf cX8_rowOf 1 (some .int) (xrm 0 0) FD_rowOf := by
  refine XS.of (own := RX8) (by decide) rfl (rk := 1) rfl (tD_rowOf) (fun vs h r hr => ?_)
  unfold FD_rowOf at hr
  split at hr
  · exact ⟨rfl, Nat.le_of_ble_eq_true rfl, hr⟩
  · cases hr
