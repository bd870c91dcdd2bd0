-- LineDiagramModel.isCrossing(I)Z
def rM_isCrossing : List (Nat × XRow) := [(0, (.aload_n 0, 1, 0, .null, [])),
  (1, (.getfield 43, 4, 43, .null, [])),
  (4, (.iload_n 1, 5, 1, .null, [])),
  (5, (.iaload, 6, 0, .null, [])),
  (6, (.invokestatic 395, 9, 395, .null, [])),
  (9, (.iconst 1, 10, 0, .int (1 : Int32), [])),
  (10, (.if_icmp .le 15, 13, 25, .null, [])),
  (13, (.aload_n 0, 14, 0, .null, [])),
  (14, (.iload_n 1, 15, 1, .null, [])),
  (15, (.invokevirtual 196, 18, 196, .null, [])),
  (18, (.ifCond .ne 7, 21, 25, .null, [])),
  (21, (.iconst 1, 22, 0, .int (1 : Int32), [])),
  (22, (.goto 4, 25, 26, .null, [])),
  (25, (.iconst 0, 26, 0, .int (0 : Int32), [])),
  (26, (.ireturn, 27, 0, .null, []))]
def mM_isCrossing : List (Nat × XM) := [(196, (2, 1, some 9, FM_isPlace)), (395, (1, 1, none, FM_ones))]
abbrev BM_isCrossing : XB := (rM_isCrossing, XFT_M, mM_isCrossing, 6, XST_M)
set_option maxRecDepth 100000 in
theorem kM_isCrossing : XOK BM_isCrossing cX9_isCrossing 2 RX9 1 22 := xok_of (cps := []) (K := XKT_M) (by decide +kernel) XKT_M_ok (fun _ h => absurd h List.not_mem_nil) XFT_M_ok (List.forall_mem_cons.mpr ⟨⟨_, _, _, _, _, _, _, SM_isPlace, rfl, rfl, Nat.le_of_ble_eq_true rfl, Nat.le_of_ble_eq_true rfl, cdM_isPlace, lkM_196, imM_isPlace, slM_isPlace, inM_isPlace, pmM_isPlace⟩, List.forall_mem_cons.mpr ⟨⟨_, _, _, _, _, _, SM_ones, Nat.le_of_ble_eq_true rfl, Nat.le_of_ble_eq_true rfl, cdM_ones, lkM_395, imM_ones, inM_ones, pmM_ones⟩, fun _ h => absurd h List.not_mem_nil⟩⟩) XST_M_ok
def wM_isCrossing (f : Nat → Int32 → XH → XR) : List Value → List Value → XH → XR := fun vs st h => match vs, st with
  | [.ref a0, .int x1], [] => f a0 x1 h
  | _, _ => none
set_option maxRecDepth 100000 in
theorem eM_isCrossing (a0 : Nat) (x1 : Int32) (h : XH) : qM_isCrossing a0 x1 h = xrun BM_isCrossing (xfind []) 18 0 (List.zip [0, 1] [.ref a0, .int x1]) [] h := rfl
theorem tM_isCrossing : XTo cX9_isCrossing 2 RX9 6 1 22 0 [0, 1] (wM_isCrossing (qM_isCrossing)) := by
  refine XTo.run (B := BM_isCrossing) (cut := xfind []) kM_isCrossing (xcuts_ok (fun _ h => absurd h List.not_mem_nil)) 18 (fun vs st h r hr => ?_)
  unfold wM_isCrossing at hr
  split at hr
  · exact (eM_isCrossing _ _ _).symm.trans hr
  · cases hr
def FM_isCrossing : List Value → XH → XR := fun vs h => match vs with
  | [.ref a0, .int x1] => qM_isCrossing a0 x1 h
  | _ => none
theorem SM_isCrossing : XS yX9_isCrossing cX9_isCrossing 2 (some .boolean) (xrm 1 22) FM_isCrossing := by
  refine XS.of (own := RX9) (by decide) rfl (rk := 6) rfl (tM_isCrossing) (fun vs h r hr => ?_)
  unfold FM_isCrossing at hr
  split at hr
  · exact ⟨rfl, Nat.le_of_ble_eq_true rfl, hr⟩
  · cases hr
-- LineDiagramModel.allCrossings()I
def rM_allCrossings : List (Nat × XRow) := [(0, (.iconst 0, 1, 0, .int (0 : Int32), [])),
  (1, (.istore_n 1, 2, 1, .null, [])),
  (2, (.iconst 0, 3, 0, .int (0 : Int32), [])),
  (3, (.istore_n 2, 4, 2, .null, [])),
  (4, (.iload_n 2, 5, 2, .null, [])),
  (5, (.sipush 1600, 8, 0, .int (1600 : Int32), [])),
  (8, (.if_icmp .ge 25, 11, 33, .null, [])),
  (11, (.iload_n 1, 12, 1, .null, [])),
  (12, (.aload_n 0, 13, 0, .null, [])),
  (13, (.iload_n 2, 14, 2, .null, [])),
  (14, (.invokevirtual 398, 17, 398, .null, [])),
  (17, (.ifCond .eq 7, 20, 24, .null, [])),
  (20, (.iconst 1, 21, 0, .int (1 : Int32), [])),
  (21, (.goto 4, 24, 25, .null, [])),
  (24, (.iconst 0, 25, 0, .int (0 : Int32), [])),
  (25, (.iadd, 26, 0, .null, [])),
  (26, (.istore_n 1, 27, 1, .null, [])),
  (27, (.iinc 2 1, 30, 2, .int (1 : Int32), [])),
  (30, (.goto (-26), 33, 4, .null, [])),
  (33, (.iload_n 1, 34, 1, .null, [])),
  (34, (.ireturn, 35, 0, .null, []))]
def mM_allCrossings : List (Nat × XM) := [(398, (2, 1, some 9, FM_isCrossing))]
abbrev BM_allCrossings : XB := (rM_allCrossings, XFT_M, mM_allCrossings, 1, XST_M)
set_option maxRecDepth 100000 in
theorem kM_allCrossings : XOK BM_allCrossings cX9_allCrossings 3 RX9 2 43 := xok_of (cps := []) (K := XKT_M) (by decide +kernel) XKT_M_ok (fun _ h => absurd h List.not_mem_nil) XFT_M_ok (List.forall_mem_cons.mpr ⟨⟨_, _, _, _, _, _, _, SM_isCrossing, rfl, rfl, Nat.le_of_ble_eq_true rfl, Nat.le_of_ble_eq_true rfl, cdM_isCrossing, lkM_398, imM_isCrossing, slM_isCrossing, inM_isCrossing, pmM_isCrossing⟩, fun _ h => absurd h List.not_mem_nil⟩) XST_M_ok
def wM_allCrossings_4 (f : Nat → Int32 → Int32 → XH → XR) : List Value → List Value → XH → XR := fun vs st h => match vs, st with
  | [.ref a0, .int x1, .int x2], [] => f a0 x1 x2 h
  | _, _ => none
def wM_allCrossings (f : Nat → XH → XR) : List Value → List Value → XH → XR := fun vs st h => match vs, st with
  | [.ref a0], [] => f a0 h
  | _, _ => none
set_option maxRecDepth 100000 in
theorem eM_allCrossings_4_b (k4 : Nat → Int32 → Int32 → XH → XR) (a0 : Nat) (x1 : Int32) (x2 : Int32) (h : XH) : qM_allCrossings_4_b k4 a0 x1 x2 h = xrun BM_allCrossings (xfind [(4, ([0, 1, 2], wM_allCrossings_4 (k4)))]) 24 4 (List.zip [0, 1, 2] [.ref a0, .int x1, .int x2]) [] h := rfl
theorem tM_allCrossings_4_b {k4 : Nat → Int32 → Int32 → XH → XR} (hk4 : XTo cX9_allCrossings 3 RX9 1 2 43 4 [0, 1, 2] (wM_allCrossings_4 k4)) : XTo cX9_allCrossings 3 RX9 1 2 43 4 [0, 1, 2] (wM_allCrossings_4 (qM_allCrossings_4_b k4)) := by
  refine XTo.run (B := BM_allCrossings) (cut := xfind [(4, ([0, 1, 2], wM_allCrossings_4 (k4)))]) kM_allCrossings (xcuts_ok (List.forall_mem_cons.mpr ⟨hk4, fun _ h => absurd h List.not_mem_nil⟩)) 24 (fun vs st h r hr => ?_)
  unfold wM_allCrossings_4 at hr
  split at hr
  · exact (eM_allCrossings_4_b k4 _ _ _ _).symm.trans hr
  · cases hr
theorem tM_allCrossings_4 : ∀ n : Nat, XTo cX9_allCrossings 3 RX9 1 2 43 4 [0, 1, 2] (wM_allCrossings_4 (qM_allCrossings_4 n)) := by
  intro n
  induction n with
  | zero =>
    refine XTo.none fun vs st h => ?_
    unfold wM_allCrossings_4
    split <;> rfl
  | succ n ih => exact tM_allCrossings_4_b  ih
set_option maxRecDepth 100000 in
theorem eM_allCrossings (a0 : Nat) (h : XH) : qM_allCrossings a0 h = xrun BM_allCrossings (xfind [(4, ([0, 1, 2], wM_allCrossings_4 (qM_allCrossings_4 LF)))]) 24 0 (List.zip [0] [.ref a0]) [] h := rfl
theorem tM_allCrossings : XTo cX9_allCrossings 3 RX9 1 2 43 0 [0] (wM_allCrossings (qM_allCrossings)) := by
  refine XTo.run (B := BM_allCrossings) (cut := xfind [(4, ([0, 1, 2], wM_allCrossings_4 (qM_allCrossings_4 LF)))]) kM_allCrossings (xcuts_ok (List.forall_mem_cons.mpr ⟨tM_allCrossings_4 LF, fun _ h => absurd h List.not_mem_nil⟩)) 24 (fun vs st h r hr => ?_)
  unfold wM_allCrossings at hr
  split at hr
  · exact (eM_allCrossings _ _).symm.trans hr
  · cases hr
def FM_allCrossings : List Value → XH → XR := fun vs h => match vs with
  | [.ref a0] => qM_allCrossings a0 h
  | _ => none
theorem SM_allCrossings : XS yX9_allCrossings cX9_allCrossings 3 (some .int) (xrm 2 43) FM_allCrossings := by
  refine XS.of (own := RX9) (by decide) rfl (rk := 1) rfl (tM_allCrossings) (fun vs h r hr => ?_)
  unfold FM_allCrossings at hr
  split at hr
  · exact ⟨rfl, Nat.le_of_ble_eq_true rfl, hr⟩
  · cases hr
-- LineDiagramModel.has(II)Z
def rM_has : List (Nat × XRow) := [(0, (.iload_n 0, 1, 0, .null, [])),
  (1, (.iload_n 1, 2, 1, .null, [])),
  (2, (.ishr, 3, 0, .null, [])),
  (3, (.iconst 1, 4, 0, .int (1 : Int32), [])),
  (4, (.iand, 5, 0, .null, [])),
  (5, (.iconst 1, 6, 0, .int (1 : Int32), [])),
  (6, (.if_icmp .ne 7, 9, 13, .null, [])),
  (9, (.iconst 1, 10, 0, .int (1 : Int32), [])),
  (10, (.goto 4, 13, 14, .null, [])),
  (13, (.iconst 0, 14, 0, .int (0 : Int32), [])),
  (14, (.ireturn, 15, 0, .null, []))]
def mM_has : List (Nat × XM) := []
abbrev BM_has : XB := (rM_has, XFT_M, mM_has, 6, XST_M)
set_option maxRecDepth 100000 in
theorem kM_has : XOK BM_has cX9_has 2 RX9 0 0 := xok_of (cps := []) (K := XKT_M) (by decide +kernel) XKT_M_ok (fun _ h => absurd h List.not_mem_nil) XFT_M_ok (fun _ h => absurd h List.not_mem_nil) XST_M_ok
def wM_has (f : Int32 → Int32 → XH → XR) : List Value → List Value → XH → XR := fun vs st h => match vs, st with
  | [.int x0, .int x1], [] => f x0 x1 h
  | _, _ => none
set_option maxRecDepth 100000 in
theorem eM_has (x0 : Int32) (x1 : Int32) (h : XH) : qM_has x0 x1 h = xrun BM_has (xfind []) 14 0 (List.zip [0, 1] [.int x0, .int x1]) [] h := rfl
theorem tM_has : XTo cX9_has 2 RX9 6 0 0 0 [0, 1] (wM_has (qM_has)) := by
  refine XTo.run (B := BM_has) (cut := xfind []) kM_has (xcuts_ok (fun _ h => absurd h List.not_mem_nil)) 14 (fun vs st h r hr => ?_)
  unfold wM_has at hr
  split at hr
  · exact (eM_has _ _ _).symm.trans hr
  · cases hr
def FM_has : List Value → XH → XR := fun vs h => match vs with
  | [.int x0, .int x1] => qM_has x0 x1 h
  | _ => none
theorem SM_has : XS yX9_has cX9_has 2 (some .boolean) (xrm 0 0) FM_has := by
  refine XS.of (own := RX9) (by decide) rfl (rk := 6) rfl (tM_has) (fun vs h r hr => ?_)
  unfold FM_has at hr
  split at hr
  · exact ⟨rfl, Nat.le_of_ble_eq_true rfl, hr⟩
  · cases hr
-- LineDiagramModel.crossBehind(III)Z
def rM_crossBehind : List (Nat × XRow) := [(0, (.aload_n 0, 1, 0, .null, [])),
  (1, (.getfield 46, 4, 46, .null, [])),
  (4, (.iconst 4, 5, 0, .int (4 : Int32), [])),
  (5, (.iload_n 1, 6, 1, .null, [])),
  (6, (.imul, 7, 0, .null, [])),
  (7, (.iconst 1, 8, 0, .int (1 : Int32), [])),
  (8, (.iadd, 9, 0, .null, [])),
  (9, (.iaload, 10, 0, .null, [])),
  (10, (.istore 4, 12, 4, .null, [])),
  (12, (.aload_n 0, 13, 0, .null, [])),
  (13, (.getfield 46, 16, 46, .null, [])),
  (16, (.iconst 4, 17, 0, .int (4 : Int32), [])),
  (17, (.iload_n 1, 18, 1, .null, [])),
  (18, (.iconst 1, 19, 0, .int (1 : Int32), [])),
  (19, (.iadd, 20, 0, .null, [])),
  (20, (.imul, 21, 0, .null, [])),
  (21, (.iconst 3, 22, 0, .int (3 : Int32), [])),
  (22, (.iadd, 23, 0, .null, [])),
  (23, (.iaload, 24, 0, .null, [])),
  (24, (.istore 5, 26, 5, .null, [])),
  (26, (.iload 4, 28, 4, .null, [])),
  (28, (.iload_n 2, 29, 2, .null, [])),
  (29, (.invokestatic 401, 32, 401, .null, [])),
  (32, (.ifCond .eq 12, 35, 44, .null, [])),
  (35, (.iload 5, 37, 5, .null, [])),
  (37, (.iload_n 3, 38, 3, .null, [])),
  (38, (.invokestatic 401, 41, 401, .null, [])),
  (41, (.ifCond .ne 21, 44, 62, .null, [])),
  (44, (.iload 4, 46, 4, .null, [])),
  (46, (.iload_n 3, 47, 3, .null, [])),
  (47, (.invokestatic 401, 50, 401, .null, [])),
  (50, (.ifCond .eq 16, 53, 66, .null, [])),
  (53, (.iload 5, 55, 5, .null, [])),
  (55, (.iload_n 2, 56, 2, .null, [])),
  (56, (.invokestatic 401, 59, 401, .null, [])),
  (59, (.ifCond .eq 7, 62, 66, .null, [])),
  (62, (.iconst 1, 63, 0, .int (1 : Int32), [])),
  (63, (.goto 4, 66, 67, .null, [])),
  (66, (.iconst 0, 67, 0, .int (0 : Int32), [])),
  (67, (.ireturn, 68, 0, .null, []))]
def mM_crossBehind : List (Nat × XM) := [(401, (2, 1, none, FM_has))]
abbrev BM_crossBehind : XB := (rM_crossBehind, XFT_M, mM_crossBehind, 6, XST_M)
set_option maxRecDepth 100000 in
theorem kM_crossBehind : XOK BM_crossBehind cX9_crossBehind 6 RX9 1 21 := xok_of (cps := []) (K := XKT_M) (by decide +kernel) XKT_M_ok (fun _ h => absurd h List.not_mem_nil) XFT_M_ok (List.forall_mem_cons.mpr ⟨⟨_, _, _, _, _, _, SM_has, Nat.le_of_ble_eq_true rfl, Nat.le_of_ble_eq_true rfl, cdM_has, lkM_401, imM_has, inM_has, pmM_has⟩, fun _ h => absurd h List.not_mem_nil⟩) XST_M_ok
def wM_crossBehind_44 (f : Int32 → Int32 → Int32 → Int32 → XH → XR) : List Value → List Value → XH → XR := fun vs st h => match vs, st with
  | [.int x2, .int x3, .int x4, .int x5], [] => f x2 x3 x4 x5 h
  | _, _ => none
def wM_crossBehind (f : Nat → Int32 → Int32 → Int32 → XH → XR) : List Value → List Value → XH → XR := fun vs st h => match vs, st with
  | [.ref a0, .int x1, .int x2, .int x3], [] => f a0 x1 x2 x3 h
  | _, _ => none
set_option maxRecDepth 100000 in
theorem eM_crossBehind_44 (x2 : Int32) (x3 : Int32) (x4 : Int32) (x5 : Int32) (h : XH) : qM_crossBehind_44 x2 x3 x4 x5 h = xrun BM_crossBehind (xfind []) 43 44 (List.zip [2, 3, 4, 5] [.int x2, .int x3, .int x4, .int x5]) [] h := rfl
theorem tM_crossBehind_44 : XTo cX9_crossBehind 6 RX9 6 1 21 44 [2, 3, 4, 5] (wM_crossBehind_44 (qM_crossBehind_44)) := by
  refine XTo.run (B := BM_crossBehind) (cut := xfind []) kM_crossBehind (xcuts_ok (fun _ h => absurd h List.not_mem_nil)) 43 (fun vs st h r hr => ?_)
  unfold wM_crossBehind_44 at hr
  split at hr
  · exact (eM_crossBehind_44 _ _ _ _ _).symm.trans hr
  · cases hr
set_option maxRecDepth 100000 in
theorem eM_crossBehind (a0 : Nat) (x1 : Int32) (x2 : Int32) (x3 : Int32) (h : XH) : qM_crossBehind a0 x1 x2 x3 h = xrun BM_crossBehind (xfind [(44, ([2, 3, 4, 5], wM_crossBehind_44 (qM_crossBehind_44)))]) 43 0 (List.zip [0, 1, 2, 3] [.ref a0, .int x1, .int x2, .int x3]) [] h := rfl
theorem tM_crossBehind : XTo cX9_crossBehind 6 RX9 6 1 21 0 [0, 1, 2, 3] (wM_crossBehind (qM_crossBehind)) := by
  refine XTo.run (B := BM_crossBehind) (cut := xfind [(44, ([2, 3, 4, 5], wM_crossBehind_44 (qM_crossBehind_44)))]) kM_crossBehind (xcuts_ok (List.forall_mem_cons.mpr ⟨tM_crossBehind_44, fun _ h => absurd h List.not_mem_nil⟩)) 43 (fun vs st h r hr => ?_)
  unfold wM_crossBehind at hr
  split at hr
  · exact (eM_crossBehind _ _ _ _ _).symm.trans hr
  · cases hr
def FM_crossBehind : List Value → XH → XR := fun vs h => match vs with
  | [.ref a0, .int x1, .int x2, .int x3] => qM_crossBehind a0 x1 x2 x3 h
  | _ => none
theorem SM_crossBehind : XS yX9_crossBehind cX9_crossBehind 6 (some .boolean) (xrm 1 21) FM_crossBehind := by
  refine XS.of (own := RX9) (by decide) rfl (rk := 6) rfl (tM_crossBehind) (fun vs h r hr => ?_)
  unfold FM_crossBehind at hr
  split at hr
  · exact ⟨rfl, Nat.le_of_ble_eq_true rfl, hr⟩
  · cases hr
-- LineDiagramModel.between(II)I
def rM_between : List (Nat × XRow) := [(0, (.iconst 0, 1, 0, .int (0 : Int32), [])),
  (1, (.istore_n 3, 2, 3, .null, [])),
  (2, (.iconst 0, 3, 0, .int (0 : Int32), [])),
  (3, (.istore 4, 5, 4, .null, [])),
  (5, (.iload 4, 7, 4, .null, [])),
  (7, (.sipush 1599, 10, 0, .int (1599 : Int32), [])),
  (10, (.if_icmp .ge 28, 13, 38, .null, [])),
  (13, (.iload_n 3, 14, 3, .null, [])),
  (14, (.aload_n 0, 15, 0, .null, [])),
  (15, (.iload 4, 17, 4, .null, [])),
  (17, (.iload_n 1, 18, 1, .null, [])),
  (18, (.iload_n 2, 19, 2, .null, [])),
  (19, (.invokevirtual 404, 22, 404, .null, [])),
  (22, (.ifCond .eq 7, 25, 29, .null, [])),
  (25, (.iconst 1, 26, 0, .int (1 : Int32), [])),
  (26, (.goto 4, 29, 30, .null, [])),
  (29, (.iconst 0, 30, 0, .int (0 : Int32), [])),
  (30, (.iadd, 31, 0, .null, [])),
  (31, (.istore_n 3, 32, 3, .null, [])),
  (32, (.iinc 4 1, 35, 4, .int (1 : Int32), [])),
  (35, (.goto (-30), 38, 5, .null, [])),
  (38, (.iload_n 3, 39, 3, .null, [])),
  (39, (.ireturn, 40, 0, .null, []))]
def mM_between : List (Nat × XM) := [(404, (4, 1, some 9, FM_crossBehind))]
abbrev BM_between : XB := (rM_between, XFT_M, mM_between, 1, XST_M)
set_option maxRecDepth 100000 in
theorem kM_between : XOK BM_between cX9_between 5 RX9 2 46 := xok_of (cps := []) (K := XKT_M) (by decide +kernel) XKT_M_ok (fun _ h => absurd h List.not_mem_nil) XFT_M_ok (List.forall_mem_cons.mpr ⟨⟨_, _, _, _, _, _, _, SM_crossBehind, rfl, rfl, Nat.le_of_ble_eq_true rfl, Nat.le_of_ble_eq_true rfl, cdM_crossBehind, lkM_404, imM_crossBehind, slM_crossBehind, inM_crossBehind, pmM_crossBehind⟩, fun _ h => absurd h List.not_mem_nil⟩) XST_M_ok
def wM_between_5 (f : Nat → Int32 → Int32 → Int32 → Int32 → XH → XR) : List Value → List Value → XH → XR := fun vs st h => match vs, st with
  | [.ref a0, .int x1, .int x2, .int x3, .int x4], [] => f a0 x1 x2 x3 x4 h
  | _, _ => none
def wM_between (f : Nat → Int32 → Int32 → XH → XR) : List Value → List Value → XH → XR := fun vs st h => match vs, st with
  | [.ref a0, .int x1, .int x2], [] => f a0 x1 x2 h
  | _, _ => none
set_option maxRecDepth 100000 in
theorem eM_between_5_b (k5 : Nat → Int32 → Int32 → Int32 → Int32 → XH → XR) (a0 : Nat) (x1 : Int32) (x2 : Int32) (x3 : Int32) (x4 : Int32) (h : XH) : qM_between_5_b k5 a0 x1 x2 x3 x4 h = xrun BM_between (xfind [(5, ([0, 1, 2, 3, 4], wM_between_5 (k5)))]) 26 5 (List.zip [0, 1, 2, 3, 4] [.ref a0, .int x1, .int x2, .int x3, .int x4]) [] h := rfl
theorem tM_between_5_b {k5 : Nat → Int32 → Int32 → Int32 → Int32 → XH → XR} (hk5 : XTo cX9_between 5 RX9 1 2 46 5 [0, 1, 2, 3, 4] (wM_between_5 k5)) : XTo cX9_between 5 RX9 1 2 46 5 [0, 1, 2, 3, 4] (wM_between_5 (qM_between_5_b k5)) := by
  refine XTo.run (B := BM_between) (cut := xfind [(5, ([0, 1, 2, 3, 4], wM_between_5 (k5)))]) kM_between (xcuts_ok (List.forall_mem_cons.mpr ⟨hk5, fun _ h => absurd h List.not_mem_nil⟩)) 26 (fun vs st h r hr => ?_)
  unfold wM_between_5 at hr
  split at hr
  · exact (eM_between_5_b k5 _ _ _ _ _ _).symm.trans hr
  · cases hr
theorem tM_between_5 : ∀ n : Nat, XTo cX9_between 5 RX9 1 2 46 5 [0, 1, 2, 3, 4] (wM_between_5 (qM_between_5 n)) := by
  intro n
  induction n with
  | zero =>
    refine XTo.none fun vs st h => ?_
    unfold wM_between_5
    split <;> rfl
  | succ n ih => exact tM_between_5_b  ih
set_option maxRecDepth 100000 in
theorem eM_between (a0 : Nat) (x1 : Int32) (x2 : Int32) (h : XH) : qM_between a0 x1 x2 h = xrun BM_between (xfind [(5, ([0, 1, 2, 3, 4], wM_between_5 (qM_between_5 LF)))]) 26 0 (List.zip [0, 1, 2] [.ref a0, .int x1, .int x2]) [] h := rfl
theorem tM_between : XTo cX9_between 5 RX9 1 2 46 0 [0, 1, 2] (wM_between (qM_between)) := by
  refine XTo.run (B := BM_between) (cut := xfind [(5, ([0, 1, 2, 3, 4], wM_between_5 (qM_between_5 LF)))]) kM_between (xcuts_ok (List.forall_mem_cons.mpr ⟨tM_between_5 LF, fun _ h => absurd h List.not_mem_nil⟩)) 26 (fun vs st h r hr => ?_)
  unfold wM_between at hr
  split at hr
  · exact (eM_between _ _ _ _).symm.trans hr
  · cases hr
def FM_between : List Value → XH → XR := fun vs h => match vs with
  | [.ref a0, .int x1, .int x2] => qM_between a0 x1 x2 h
  | _ => none
theorem SM_between : XS yX9_between cX9_between 5 (some .int) (xrm 2 46) FM_between := by
  refine XS.of (own := RX9) (by decide) rfl (rk := 1) rfl (tM_between) (fun vs h r hr => ?_)
  unfold FM_between at hr
  split at hr
  · exact ⟨rfl, Nat.le_of_ble_eq_true rfl, hr⟩
  · cases hr
-- LineDiagramModel.sideBySide(II)I
def rM_sideBySide : List (Nat × XRow) := [(0, (.iconst 0, 1, 0, .int (0 : Int32), [])),
  (1, (.istore_n 3, 2, 3, .null, [])),
  (2, (.iconst 0, 3, 0, .int (0 : Int32), [])),
  (3, (.istore 4, 5, 4, .null, [])),
  (5, (.iload 4, 7, 4, .null, [])),
  (7, (.sipush 6400, 10, 0, .int (6400 : Int32), [])),
  (10, (.if_icmp .ge 45, 13, 55, .null, [])),
  (13, (.iload_n 3, 14, 3, .null, [])),
  (14, (.aload_n 0, 15, 0, .null, [])),
  (15, (.getfield 46, 18, 46, .null, [])),
  (18, (.iload 4, 20, 4, .null, [])),
  (20, (.iaload, 21, 0, .null, [])),
  (21, (.iload_n 1, 22, 1, .null, [])),
  (22, (.invokestatic 401, 25, 401, .null, [])),
  (25, (.ifCond .eq 21, 28, 46, .null, [])),
  (28, (.aload_n 0, 29, 0, .null, [])),
  (29, (.getfield 46, 32, 46, .null, [])),
  (32, (.iload 4, 34, 4, .null, [])),
  (34, (.iaload, 35, 0, .null, [])),
  (35, (.iload_n 2, 36, 2, .null, [])),
  (36, (.invokestatic 401, 39, 401, .null, [])),
  (39, (.ifCond .eq 7, 42, 46, .null, [])),
  (42, (.iconst 1, 43, 0, .int (1 : Int32), [])),
  (43, (.goto 4, 46, 47, .null, [])),
  (46, (.iconst 0, 47, 0, .int (0 : Int32), [])),
  (47, (.iadd, 48, 0, .null, [])),
  (48, (.istore_n 3, 49, 3, .null, [])),
  (49, (.iinc 4 1, 52, 4, .int (1 : Int32), [])),
  (52, (.goto (-47), 55, 5, .null, [])),
  (55, (.iload_n 3, 56, 3, .null, [])),
  (56, (.ireturn, 57, 0, .null, []))]
def mM_sideBySide : List (Nat × XM) := [(401, (2, 1, none, FM_has))]
abbrev BM_sideBySide : XB := (rM_sideBySide, XFT_M, mM_sideBySide, 1, XST_M)
set_option maxRecDepth 100000 in
theorem kM_sideBySide : XOK BM_sideBySide cX9_sideBySide 5 RX9 1 21 := xok_of (cps := []) (K := XKT_M) (by decide +kernel) XKT_M_ok (fun _ h => absurd h List.not_mem_nil) XFT_M_ok (List.forall_mem_cons.mpr ⟨⟨_, _, _, _, _, _, SM_has, Nat.le_of_ble_eq_true rfl, Nat.le_of_ble_eq_true rfl, cdM_has, lkM_401, imM_has, inM_has, pmM_has⟩, fun _ h => absurd h List.not_mem_nil⟩) XST_M_ok
def wM_sideBySide_46 (f : Nat → Int32 → Int32 → Int32 → Int32 → XH → XR) : List Value → List Value → XH → XR := fun vs st h => match vs, st with
  | [.ref a0, .int x1, .int x2, .int x4], [.int s0] => f a0 x1 x2 x4 s0 h
  | _, _ => none
def wM_sideBySide_5 (f : Nat → Int32 → Int32 → Int32 → Int32 → XH → XR) : List Value → List Value → XH → XR := fun vs st h => match vs, st with
  | [.ref a0, .int x1, .int x2, .int x3, .int x4], [] => f a0 x1 x2 x3 x4 h
  | _, _ => none
def wM_sideBySide (f : Nat → Int32 → Int32 → XH → XR) : List Value → List Value → XH → XR := fun vs st h => match vs, st with
  | [.ref a0, .int x1, .int x2], [] => f a0 x1 x2 h
  | _, _ => none
set_option maxRecDepth 100000 in
theorem eM_sideBySide_46 (k5 : Nat → Int32 → Int32 → Int32 → Int32 → XH → XR) (a0 : Nat) (x1 : Int32) (x2 : Int32) (x4 : Int32) (s0 : Int32) (h : XH) : qM_sideBySide_46 k5 a0 x1 x2 x4 s0 h = xrun BM_sideBySide (xfind [(5, ([0, 1, 2, 3, 4], wM_sideBySide_5 (k5)))]) 34 46 (List.zip [0, 1, 2, 4] [.ref a0, .int x1, .int x2, .int x4]) [.int s0] h := rfl
theorem tM_sideBySide_46 {k5 : Nat → Int32 → Int32 → Int32 → Int32 → XH → XR} (hk5 : XTo cX9_sideBySide 5 RX9 1 1 21 5 [0, 1, 2, 3, 4] (wM_sideBySide_5 k5)) : XTo cX9_sideBySide 5 RX9 1 1 21 46 [0, 1, 2, 4] (wM_sideBySide_46 (qM_sideBySide_46 k5)) := by
  refine XTo.run (B := BM_sideBySide) (cut := xfind [(5, ([0, 1, 2, 3, 4], wM_sideBySide_5 (k5)))]) kM_sideBySide (xcuts_ok (List.forall_mem_cons.mpr ⟨hk5, fun _ h => absurd h List.not_mem_nil⟩)) 34 (fun vs st h r hr => ?_)
  unfold wM_sideBySide_46 at hr
  split at hr
  · exact (eM_sideBySide_46 k5 _ _ _ _ _ _).symm.trans hr
  · cases hr
set_option maxRecDepth 100000 in
theorem eM_sideBySide_5_b (k5 : Nat → Int32 → Int32 → Int32 → Int32 → XH → XR) (a0 : Nat) (x1 : Int32) (x2 : Int32) (x3 : Int32) (x4 : Int32) (h : XH) : qM_sideBySide_5_b k5 a0 x1 x2 x3 x4 h = xrun BM_sideBySide (xfind [(5, ([0, 1, 2, 3, 4], wM_sideBySide_5 (k5))), (46, ([0, 1, 2, 4], wM_sideBySide_46 (qM_sideBySide_46 k5)))]) 34 5 (List.zip [0, 1, 2, 3, 4] [.ref a0, .int x1, .int x2, .int x3, .int x4]) [] h := rfl
theorem tM_sideBySide_5_b {k5 : Nat → Int32 → Int32 → Int32 → Int32 → XH → XR} (hk5 : XTo cX9_sideBySide 5 RX9 1 1 21 5 [0, 1, 2, 3, 4] (wM_sideBySide_5 k5)) : XTo cX9_sideBySide 5 RX9 1 1 21 5 [0, 1, 2, 3, 4] (wM_sideBySide_5 (qM_sideBySide_5_b k5)) := by
  refine XTo.run (B := BM_sideBySide) (cut := xfind [(5, ([0, 1, 2, 3, 4], wM_sideBySide_5 (k5))), (46, ([0, 1, 2, 4], wM_sideBySide_46 (qM_sideBySide_46 k5)))]) kM_sideBySide (xcuts_ok (List.forall_mem_cons.mpr ⟨hk5, List.forall_mem_cons.mpr ⟨tM_sideBySide_46 hk5, fun _ h => absurd h List.not_mem_nil⟩⟩)) 34 (fun vs st h r hr => ?_)
  unfold wM_sideBySide_5 at hr
  split at hr
  · exact (eM_sideBySide_5_b k5 _ _ _ _ _ _).symm.trans hr
  · cases hr
theorem tM_sideBySide_5 : ∀ n : Nat, XTo cX9_sideBySide 5 RX9 1 1 21 5 [0, 1, 2, 3, 4] (wM_sideBySide_5 (qM_sideBySide_5 n)) := by
  intro n
  induction n with
  | zero =>
    refine XTo.none fun vs st h => ?_
    unfold wM_sideBySide_5
    split <;> rfl
  | succ n ih => exact tM_sideBySide_5_b  ih
set_option maxRecDepth 100000 in
theorem eM_sideBySide (a0 : Nat) (x1 : Int32) (x2 : Int32) (h : XH) : qM_sideBySide a0 x1 x2 h = xrun BM_sideBySide (xfind [(5, ([0, 1, 2, 3, 4], wM_sideBySide_5 (qM_sideBySide_5 LF)))]) 34 0 (List.zip [0, 1, 2] [.ref a0, .int x1, .int x2]) [] h := rfl
theorem tM_sideBySide : XTo cX9_sideBySide 5 RX9 1 1 21 0 [0, 1, 2] (wM_sideBySide (qM_sideBySide)) := by
  refine XTo.run (B := BM_sideBySide) (cut := xfind [(5, ([0, 1, 2, 3, 4], wM_sideBySide_5 (qM_sideBySide_5 LF)))]) kM_sideBySide (xcuts_ok (List.forall_mem_cons.mpr ⟨tM_sideBySide_5 LF, fun _ h => absurd h List.not_mem_nil⟩)) 34 (fun vs st h r hr => ?_)
  unfold wM_sideBySide at hr
  split at hr
  · exact (eM_sideBySide _ _ _ _).symm.trans hr
  · cases hr
def FM_sideBySide : List Value → XH → XR := fun vs h => match vs with
  | [.ref a0, .int x1, .int x2] => qM_sideBySide a0 x1 x2 h
  | _ => none
theorem SM_sideBySide : XS yX9_sideBySide cX9_sideBySide 5 (some .int) (xrm 1 21) FM_sideBySide := by
  refine XS.of (own := RX9) (by decide) rfl (rk := 1) rfl (tM_sideBySide) (fun vs h r hr => ?_)
  unfold FM_sideBySide at hr
  split at hr
  · exact ⟨rfl, Nat.le_of_ble_eq_true rfl, hr⟩
  · cases hr
-- LineDiagramModel.allOf(Z)I
def rM_allOf : List (Nat × XRow) := [(0, (.iconst 0, 1, 0, .int (0 : Int32), [])),
  (1, (.istore_n 2, 2, 2, .null, [])),
  (2, (.iconst 0, 3, 0, .int (0 : Int32), [])),
  (3, (.istore_n 3, 4, 3, .null, [])),
  (4, (.iload_n 3, 5, 3, .null, [])),
  (5, (.aload_n 0, 6, 0, .null, [])),
  (6, (.getfield 100, 9, 100, .null, [])),
  (9, (.if_icmp .ge 53, 12, 62, .null, [])),
  (12, (.iload_n 3, 13, 3, .null, [])),
  (13, (.iconst 1, 14, 0, .int (1 : Int32), [])),
  (14, (.iadd, 15, 0, .null, [])),
  (15, (.istore 4, 17, 4, .null, [])),
  (17, (.iload 4, 19, 4, .null, [])),
  (19, (.aload_n 0, 20, 0, .null, [])),
  (20, (.getfield 100, 23, 100, .null, [])),
  (23, (.if_icmp .ge 33, 26, 56, .null, [])),
  (26, (.iload_n 2, 27, 2, .null, [])),
  (27, (.iload_n 1, 28, 1, .null, [])),
  (28, (.ifCond .eq 13, 31, 41, .null, [])),
  (31, (.aload_n 0, 32, 0, .null, [])),
  (32, (.iload_n 3, 33, 3, .null, [])),
  (33, (.iload 4, 35, 4, .null, [])),
  (35, (.invokevirtual 408, 38, 408, .null, [])),
  (38, (.goto 10, 41, 48, .null, [])),
  (41, (.aload_n 0, 42, 0, .null, [])),
  (42, (.iload_n 3, 43, 3, .null, [])),
  (43, (.iload 4, 45, 4, .null, [])),
  (45, (.invokevirtual 411, 48, 411, .null, [])),
  (48, (.iadd, 49, 0, .null, [])),
  (49, (.istore_n 2, 50, 2, .null, [])),
  (50, (.iinc 4 1, 53, 4, .int (1 : Int32), [])),
  (53, (.goto (-36), 56, 17, .null, [])),
  (56, (.iinc 3 1, 59, 3, .int (1 : Int32), [])),
  (59, (.goto (-55), 62, 4, .null, [])),
  (62, (.iload_n 2, 63, 2, .null, [])),
  (63, (.ireturn, 64, 0, .null, []))]
def mM_allOf : List (Nat × XM) := [(408, (3, 1, some 9, FM_between)), (411, (3, 1, some 9, FM_sideBySide))]
abbrev BM_allOf : XB := (rM_allOf, XFT_M, mM_allOf, 1, XST_M)
set_option maxRecDepth 100000 in
theorem kM_allOf : XOK BM_allOf cX9_allOf 5 RX9 3 70 := xok_of (cps := []) (K := XKT_M) (by decide +kernel) XKT_M_ok (fun _ h => absurd h List.not_mem_nil) XFT_M_ok (List.forall_mem_cons.mpr ⟨⟨_, _, _, _, _, _, _, SM_between, rfl, rfl, Nat.le_of_ble_eq_true rfl, Nat.le_of_ble_eq_true rfl, cdM_between, lkM_408, imM_between, slM_between, inM_between, pmM_between⟩, List.forall_mem_cons.mpr ⟨⟨_, _, _, _, _, _, _, SM_sideBySide, rfl, rfl, Nat.le_of_ble_eq_true rfl, Nat.le_of_ble_eq_true rfl, cdM_sideBySide, lkM_411, imM_sideBySide, slM_sideBySide, inM_sideBySide, pmM_sideBySide⟩, fun _ h => absurd h List.not_mem_nil⟩⟩) XST_M_ok
def wM_allOf_17 (f : Nat → Int32 → Int32 → Int32 → Int32 → XH → XR) : List Value → List Value → XH → XR := fun vs st h => match vs, st with
  | [.ref a0, .int x1, .int x2, .int x3, .int x4], [] => f a0 x1 x2 x3 x4 h
  | _, _ => none
def wM_allOf_4 (f : Nat → Int32 → Int32 → Int32 → XH → XR) : List Value → List Value → XH → XR := fun vs st h => match vs, st with
  | [.ref a0, .int x1, .int x2, .int x3], [] => f a0 x1 x2 x3 h
  | _, _ => none
def wM_allOf (f : Nat → Int32 → XH → XR) : List Value → List Value → XH → XR := fun vs st h => match vs, st with
  | [.ref a0, .int x1], [] => f a0 x1 h
  | _, _ => none
set_option maxRecDepth 100000 in
theorem eM_allOf_17_b (k4 : Nat → Int32 → Int32 → Int32 → XH → XR) (k17 : Nat → Int32 → Int32 → Int32 → Int32 → XH → XR) (a0 : Nat) (x1 : Int32) (x2 : Int32) (x3 : Int32) (x4 : Int32) (h : XH) : qM_allOf_17_b k4 k17 a0 x1 x2 x3 x4 h = xrun BM_allOf (xfind [(4, ([0, 1, 2, 3], wM_allOf_4 (k4))), (17, ([0, 1, 2, 3, 4], wM_allOf_17 (k17)))]) 39 17 (List.zip [0, 1, 2, 3, 4] [.ref a0, .int x1, .int x2, .int x3, .int x4]) [] h := rfl
theorem tM_allOf_17_b {k4 : Nat → Int32 → Int32 → Int32 → XH → XR} {k17 : Nat → Int32 → Int32 → Int32 → Int32 → XH → XR} (hk4 : XTo cX9_allOf 5 RX9 1 3 70 4 [0, 1, 2, 3] (wM_allOf_4 k4)) (hk17 : XTo cX9_allOf 5 RX9 1 3 70 17 [0, 1, 2, 3, 4] (wM_allOf_17 k17)) : XTo cX9_allOf 5 RX9 1 3 70 17 [0, 1, 2, 3, 4] (wM_allOf_17 (qM_allOf_17_b k4 k17)) := by
  refine XTo.run (B := BM_allOf) (cut := xfind [(4, ([0, 1, 2, 3], wM_allOf_4 (k4))), (17, ([0, 1, 2, 3, 4], wM_allOf_17 (k17)))]) kM_allOf (xcuts_ok (List.forall_mem_cons.mpr ⟨hk4, List.forall_mem_cons.mpr ⟨hk17, fun _ h => absurd h List.not_mem_nil⟩⟩)) 39 (fun vs st h r hr => ?_)
  unfold wM_allOf_17 at hr
  split at hr
  · exact (eM_allOf_17_b k4 k17 _ _ _ _ _ _).symm.trans hr
  · cases hr
theorem tM_allOf_17 {k4 : Nat → Int32 → Int32 → Int32 → XH → XR} (hk4 : XTo cX9_allOf 5 RX9 1 3 70 4 [0, 1, 2, 3] (wM_allOf_4 k4)) : ∀ n : Nat, XTo cX9_allOf 5 RX9 1 3 70 17 [0, 1, 2, 3, 4] (wM_allOf_17 (qM_allOf_17 k4 n)) := by
  intro n
  induction n with
  | zero =>
    refine XTo.none fun vs st h => ?_
    unfold wM_allOf_17
    split <;> rfl
  | succ n ih => exact tM_allOf_17_b hk4 ih
set_option maxRecDepth 100000 in
theorem eM_allOf_4_b (k4 : Nat → Int32 → Int32 → Int32 → XH → XR) (a0 : Nat) (x1 : Int32) (x2 : Int32) (x3 : Int32) (h : XH) : qM_allOf_4_b k4 a0 x1 x2 x3 h = xrun BM_allOf (xfind [(17, ([0, 1, 2, 3, 4], wM_allOf_17 (qM_allOf_17 k4 LF)))]) 39 4 (List.zip [0, 1, 2, 3] [.ref a0, .int x1, .int x2, .int x3]) [] h := rfl
theorem tM_allOf_4_b {k4 : Nat → Int32 → Int32 → Int32 → XH → XR} (hk4 : XTo cX9_allOf 5 RX9 1 3 70 4 [0, 1, 2, 3] (wM_allOf_4 k4)) : XTo cX9_allOf 5 RX9 1 3 70 4 [0, 1, 2, 3] (wM_allOf_4 (qM_allOf_4_b k4)) := by
  refine XTo.run (B := BM_allOf) (cut := xfind [(17, ([0, 1, 2, 3, 4], wM_allOf_17 (qM_allOf_17 k4 LF)))]) kM_allOf (xcuts_ok (List.forall_mem_cons.mpr ⟨tM_allOf_17 hk4 LF, fun _ h => absurd h List.not_mem_nil⟩)) 39 (fun vs st h r hr => ?_)
  unfold wM_allOf_4 at hr
  split at hr
  · exact (eM_allOf_4_b k4 _ _ _ _ _).symm.trans hr
  · cases hr
theorem tM_allOf_4 : ∀ n : Nat, XTo cX9_allOf 5 RX9 1 3 70 4 [0, 1, 2, 3] (wM_allOf_4 (qM_allOf_4 n)) := by
  intro n
  induction n with
  | zero =>
    refine XTo.none fun vs st h => ?_
    unfold wM_allOf_4
    split <;> rfl
  | succ n ih => exact tM_allOf_4_b  ih
set_option maxRecDepth 100000 in
theorem eM_allOf (a0 : Nat) (x1 : Int32) (h : XH) : qM_allOf a0 x1 h = xrun BM_allOf (xfind [(4, ([0, 1, 2, 3], wM_allOf_4 (qM_allOf_4 LF)))]) 39 0 (List.zip [0, 1] [.ref a0, .int x1]) [] h := rfl
theorem tM_allOf : XTo cX9_allOf 5 RX9 1 3 70 0 [0, 1] (wM_allOf (qM_allOf)) := by
  refine XTo.run (B := BM_allOf) (cut := xfind [(4, ([0, 1, 2, 3], wM_allOf_4 (qM_allOf_4 LF)))]) kM_allOf (xcuts_ok (List.forall_mem_cons.mpr ⟨tM_allOf_4 LF, fun _ h => absurd h List.not_mem_nil⟩)) 39 (fun vs st h r hr => ?_)
  unfold wM_allOf at hr
  split at hr
  · exact (eM_allOf _ _ _).symm.trans hr
  · cases hr
def FM_allOf : List Value → XH → XR := fun vs h => match vs with
  | [.ref a0, .int x1] => qM_allOf a0 x1 h
  | _ => none
theorem SM_allOf : XS yX9_allOf cX9_allOf 5 (some .int) (xrm 3 70) FM_allOf := by
  refine XS.of (own := RX9) (by decide) rfl (rk := 1) rfl (tM_allOf) (fun vs h r hr => ?_)
  unfold FM_allOf at hr
  split at hr
  · exact ⟨rfl, Nat.le_of_ble_eq_true rfl, hr⟩
  · cases hr
-- LineDiagramModel.value(I)I
def rM_value : List (Nat × XRow) := [(0, (.aload_n 0, 1, 0, .null, [])),
  (1, (.invokevirtual 380, 4, 380, .null, [])),
  (4, (.iload_n 1, 5, 1, .null, [])),
  (5, (.tableswitch 134 0 11 #[63, 68, 73, 78, 83, 88, 94, 99, 111, 117, 122, 128], 68, 139, .null, [((0 : Int32), 68), ((1 : Int32), 73), ((2 : Int32), 78), ((3 : Int32), 83), ((4 : Int32), 88), ((5 : Int32), 93), ((6 : Int32), 99), ((7 : Int32), 104), ((8 : Int32), 116), ((9 : Int32), 122), ((10 : Int32), 127), ((11 : Int32), 133)])),
  (68, (.aload_n 0, 69, 0, .null, [])),
  (69, (.getfield 73, 72, 73, .null, [])),
  (72, (.ireturn, 73, 0, .null, [])),
  (73, (.aload_n 0, 74, 0, .null, [])),
  (74, (.getfield 76, 77, 76, .null, [])),
  (77, (.ireturn, 78, 0, .null, [])),
  (78, (.aload_n 0, 79, 0, .null, [])),
  (79, (.getfield 79, 82, 79, .null, [])),
  (82, (.ireturn, 83, 0, .null, [])),
  (83, (.aload_n 0, 84, 0, .null, [])),
  (84, (.getfield 100, 87, 100, .null, [])),
  (87, (.ireturn, 88, 0, .null, [])),
  (88, (.aload_n 0, 89, 0, .null, [])),
  (89, (.invokevirtual 417, 92, 417, .null, [])),
  (92, (.ireturn, 93, 0, .null, [])),
  (93, (.aload_n 0, 94, 0, .null, [])),
  (94, (.iconst 3, 95, 0, .int (3 : Int32), [])),
  (95, (.invokevirtual 420, 98, 420, .null, [])),
  (98, (.ireturn, 99, 0, .null, [])),
  (99, (.aload_n 0, 100, 0, .null, [])),
  (100, (.invokevirtual 392, 103, 392, .null, [])),
  (103, (.ireturn, 104, 0, .null, [])),
  (104, (.aload_n 0, 105, 0, .null, [])),
  (105, (.iconst 3, 106, 0, .int (3 : Int32), [])),
  (106, (.invokevirtual 420, 109, 420, .null, [])),
  (109, (.aload_n 0, 110, 0, .null, [])),
  (110, (.iconst 2, 111, 0, .int (2 : Int32), [])),
  (111, (.invokevirtual 420, 114, 420, .null, [])),
  (114, (.iadd, 115, 0, .null, [])),
  (115, (.ireturn, 116, 0, .null, [])),
  (116, (.aload_n 0, 117, 0, .null, [])),
  (117, (.iconst 1, 118, 0, .int (1 : Int32), [])),
  (118, (.invokevirtual 420, 121, 420, .null, [])),
  (121, (.ireturn, 122, 0, .null, [])),
  (122, (.aload_n 0, 123, 0, .null, [])),
  (123, (.invokevirtual 423, 126, 423, .null, [])),
  (126, (.ireturn, 127, 0, .null, [])),
  (127, (.aload_n 0, 128, 0, .null, [])),
  (128, (.iconst 1, 129, 0, .int (1 : Int32), [])),
  (129, (.invokevirtual 426, 132, 426, .null, [])),
  (132, (.ireturn, 133, 0, .null, [])),
  (133, (.aload_n 0, 134, 0, .null, [])),
  (134, (.iconst 0, 135, 0, .int (0 : Int32), [])),
  (135, (.invokevirtual 426, 138, 426, .null, [])),
  (138, (.ireturn, 139, 0, .null, [])),
  (139, (.iconst (-1), 140, 0, .int (-1 : Int32), [])),
  (140, (.ireturn, 141, 0, .null, []))]
def mM_value : List (Nat × XM) := [(380, (1, 0, some 9, FM_lays)), (392, (1, 1, some 9, FM_manyLabels)), (417, (1, 1, some 9, FM_allStops)), (420, (2, 1, some 9, FM_cellsOf)), (423, (1, 1, some 9, FM_allCrossings)), (426, (2, 1, some 9, FM_allOf))]
abbrev BM_value : XB := (rM_value, XFT_M, mM_value, 1, XST_M)
set_option maxRecDepth 100000 in
theorem kM_value : XOK BM_value cX9_value 2 RX9 6 138 := xok_of (cps := []) (K := XKT_M) (by decide +kernel) XKT_M_ok (fun _ h => absurd h List.not_mem_nil) XFT_M_ok (List.forall_mem_cons.mpr ⟨⟨_, _, _, _, _, _, _, SM_lays, rfl, rfl, Nat.le_of_ble_eq_true rfl, Nat.le_of_ble_eq_true rfl, cdM_lays, lkM_380, imM_lays, slM_lays, inM_lays, pmM_lays⟩, List.forall_mem_cons.mpr ⟨⟨_, _, _, _, _, _, _, SM_manyLabels, rfl, rfl, Nat.le_of_ble_eq_true rfl, Nat.le_of_ble_eq_true rfl, cdM_manyLabels, lkM_392, imM_manyLabels, slM_manyLabels, inM_manyLabels, pmM_manyLabels⟩, List.forall_mem_cons.mpr ⟨⟨_, _, _, _, _, _, _, SM_allStops, rfl, rfl, Nat.le_of_ble_eq_true rfl, Nat.le_of_ble_eq_true rfl, cdM_allStops, lkM_417, imM_allStops, slM_allStops, inM_allStops, pmM_allStops⟩, List.forall_mem_cons.mpr ⟨⟨_, _, _, _, _, _, _, SM_cellsOf, rfl, rfl, Nat.le_of_ble_eq_true rfl, Nat.le_of_ble_eq_true rfl, cdM_cellsOf, lkM_420, imM_cellsOf, slM_cellsOf, inM_cellsOf, pmM_cellsOf⟩, List.forall_mem_cons.mpr ⟨⟨_, _, _, _, _, _, _, SM_allCrossings, rfl, rfl, Nat.le_of_ble_eq_true rfl, Nat.le_of_ble_eq_true rfl, cdM_allCrossings, lkM_423, imM_allCrossings, slM_allCrossings, inM_allCrossings, pmM_allCrossings⟩, List.forall_mem_cons.mpr ⟨⟨_, _, _, _, _, _, _, SM_allOf, rfl, rfl, Nat.le_of_ble_eq_true rfl, Nat.le_of_ble_eq_true rfl, cdM_allOf, lkM_426, imM_allOf, slM_allOf, inM_allOf, pmM_allOf⟩, fun _ h => absurd h List.not_mem_nil⟩⟩⟩⟩⟩⟩) XST_M_ok
def wM_value (f : Nat → Int32 → XH → XR) : List Value → List Value → XH → XR := fun vs st h => match vs, st with
  | [.ref a0, .int x1], [] => f a0 x1 h
  | _, _ => none
set_option maxRecDepth 100000 in
theorem eM_value (a0 : Nat) (x1 : Int32) (h : XH) : qM_value a0 x1 h = xrun BM_value (xfind []) 54 0 (List.zip [0, 1] [.ref a0, .int x1]) [] h := rfl
theorem tM_value : XTo cX9_value 2 RX9 1 6 138 0 [0, 1] (wM_value (qM_value)) := by
  refine XTo.run (B := BM_value) (cut := xfind []) kM_value (xcuts_ok (fun _ h => absurd h List.not_mem_nil)) 54 (fun vs st h r hr => ?_)
  unfold wM_value at hr
  split at hr
  · exact (eM_value _ _ _).symm.trans hr
  · cases hr
def FM_value : List Value → XH → XR := fun vs h => match vs with
  | [.ref a0, .int x1] => qM_value a0 x1 h
  | _ => none
theorem SM_value : XS yX9_value cX9_value 2 (some .int) (xrm 6 138) FM_value := by
  refine XS.of (own := RX9) (by decide) rfl (rk := 1) rfl (tM_value) (fun vs h r hr => ?_)
  unfold FM_value at hr
  split at hr
  · exact ⟨rfl, Nat.le_of_ble_eq_true rfl, hr⟩
  · cases hr
-- LineDiagram$Line.countBends()I
def rLn_countBends : List (Nat × XRow) := [(0, (.iconst 0, 1, 0, .int (0 : Int32), [])),
  (1, (.istore_n 1, 2, 1, .null, [])),
  (2, (.iconst 1, 3, 0, .int (1 : Int32), [])),
  (3, (.istore_n 2, 4, 2, .null, [])),
  (4, (.iload_n 2, 5, 2, .null, [])),
  (5, (.aload_n 0, 6, 0, .null, [])),
  (6, (.getfield 22, 9, 22, .null, [])),
  (9, (.iconst 1, 10, 0, .int (1 : Int32), [])),
  (10, (.isub, 11, 0, .null, [])),
  (11, (.if_icmp .ge 20, 14, 31, .null, [])),
  (14, (.aload_n 0, 15, 0, .null, [])),
  (15, (.iload_n 2, 16, 2, .null, [])),
  (16, (.invokevirtual 62, 19, 62, .null, [])),
  (19, (.ifCond .eq 6, 22, 25, .null, [])),
  (22, (.iinc 1 1, 25, 1, .int (1 : Int32), [])),
  (25, (.iinc 2 1, 28, 2, .int (1 : Int32), [])),
  (28, (.goto (-24), 31, 4, .null, [])),
  (31, (.iload_n 1, 32, 1, .null, [])),
  (32, (.ireturn, 33, 0, .null, []))]
def mLn_countBends : List (Nat × XM) := [(62, (2, 1, some 3, FLn_turnAt))]
abbrev BLn_countBends : XB := (rLn_countBends, XFT_Ln, mLn_countBends, 1, XST_Ln)
set_option maxRecDepth 100000 in
theorem kLn_countBends : XOK BLn_countBends cX3_countBends 3 RX3 3 66 := xok_of (cps := []) (K := XKT_Ln) (by decide +kernel) XKT_Ln_ok (fun _ h => absurd h List.not_mem_nil) XFT_Ln_ok (List.forall_mem_cons.mpr ⟨⟨_, _, _, _, _, _, _, SLn_turnAt, rfl, rfl, Nat.le_of_ble_eq_true rfl, Nat.le_of_ble_eq_true rfl, cdLn_turnAt, lkLn_62, imLn_turnAt, slLn_turnAt, inLn_turnAt, pmLn_turnAt⟩, fun _ h => absurd h List.not_mem_nil⟩) XST_Ln_ok
def wLn_countBends_4 (f : Nat → Int32 → Int32 → XH → XR) : List Value → List Value → XH → XR := fun vs st h => match vs, st with
  | [.ref a0, .int x1, .int x2], [] => f a0 x1 x2 h
  | _, _ => none
def wLn_countBends (f : Nat → XH → XR) : List Value → List Value → XH → XR := fun vs st h => match vs, st with
  | [.ref a0], [] => f a0 h
  | _, _ => none
set_option maxRecDepth 100000 in
theorem eLn_countBends_4_b (k4 : Nat → Int32 → Int32 → XH → XR) (a0 : Nat) (x1 : Int32) (x2 : Int32) (h : XH) : qLn_countBends_4_b k4 a0 x1 x2 h = xrun BLn_countBends (xfind [(4, ([0, 1, 2], wLn_countBends_4 (k4)))]) 22 4 (List.zip [0, 1, 2] [.ref a0, .int x1, .int x2]) [] h := rfl
theorem tLn_countBends_4_b {k4 : Nat → Int32 → Int32 → XH → XR} (hk4 : XTo cX3_countBends 3 RX3 1 3 66 4 [0, 1, 2] (wLn_countBends_4 k4)) : XTo cX3_countBends 3 RX3 1 3 66 4 [0, 1, 2] (wLn_countBends_4 (qLn_countBends_4_b k4)) := by
  refine XTo.run (B := BLn_countBends) (cut := xfind [(4, ([0, 1, 2], wLn_countBends_4 (k4)))]) kLn_countBends (xcuts_ok (List.forall_mem_cons.mpr ⟨hk4, fun _ h => absurd h List.not_mem_nil⟩)) 22 (fun vs st h r hr => ?_)
  unfold wLn_countBends_4 at hr
  split at hr
  · exact (eLn_countBends_4_b k4 _ _ _ _).symm.trans hr
  · cases hr
theorem tLn_countBends_4 : ∀ n : Nat, XTo cX3_countBends 3 RX3 1 3 66 4 [0, 1, 2] (wLn_countBends_4 (qLn_countBends_4 n)) := by
  intro n
  induction n with
  | zero =>
    refine XTo.none fun vs st h => ?_
    unfold wLn_countBends_4
    split <;> rfl
  | succ n ih => exact tLn_countBends_4_b  ih
set_option maxRecDepth 100000 in
theorem eLn_countBends (a0 : Nat) (h : XH) : qLn_countBends a0 h = xrun BLn_countBends (xfind [(4, ([0, 1, 2], wLn_countBends_4 (qLn_countBends_4 LF)))]) 22 0 (List.zip [0] [.ref a0]) [] h := rfl
theorem tLn_countBends : XTo cX3_countBends 3 RX3 1 3 66 0 [0] (wLn_countBends (qLn_countBends)) := by
  refine XTo.run (B := BLn_countBends) (cut := xfind [(4, ([0, 1, 2], wLn_countBends_4 (qLn_countBends_4 LF)))]) kLn_countBends (xcuts_ok (List.forall_mem_cons.mpr ⟨tLn_countBends_4 LF, fun _ h => absurd h List.not_mem_nil⟩)) 22 (fun vs st h r hr => ?_)
  unfold wLn_countBends at hr
  split at hr
  · exact (eLn_countBends _ _).symm.trans hr
  · cases hr
def FLn_countBends : List Value → XH → XR := fun vs h => match vs with
  | [.ref a0] => qLn_countBends a0 h
  | _ => none
theorem SLn_countBends : XS yX3_countBends cX3_countBends 3 (some .int) (xrm 3 66) FLn_countBends := by
  refine XS.of (own := RX3) (by decide) rfl (rk := 1) rfl (tLn_countBends) (fun vs h r hr => ?_)
  unfold FLn_countBends at hr
  split at hr
  · exact ⟨rfl, Nat.le_of_ble_eq_true rfl, hr⟩
  · cases hr
-- LineDiagram$Line.greatestTurn()I
def rLn_greatestTurn : List (Nat × XRow) := [(0, (.iconst 0, 1, 0, .int (0 : Int32), [])),
  (1, (.istore_n 1, 2, 1, .null, [])),
  (2, (.iconst 1, 3, 0, .int (1 : Int32), [])),
  (3, (.istore_n 2, 4, 2, .null, [])),
  (4, (.iload_n 2, 5, 2, .null, [])),
  (5, (.aload_n 0, 6, 0, .null, [])),
  (6, (.getfield 22, 9, 22, .null, [])),
  (9, (.iconst 1, 10, 0, .int (1 : Int32), [])),
  (10, (.isub, 11, 0, .null, [])),
  (11, (.if_icmp .ge 19, 14, 30, .null, [])),
  (14, (.iload_n 1, 15, 1, .null, [])),
  (15, (.aload_n 0, 16, 0, .null, [])),
  (16, (.iload_n 2, 17, 2, .null, [])),
  (17, (.invokevirtual 62, 20, 62, .null, [])),
  (20, (.invokestatic 49, 23, 49, .int (2 : Int32), [])),
  (23, (.istore_n 1, 24, 1, .null, [])),
  (24, (.iinc 2 1, 27, 2, .int (1 : Int32), [])),
  (27, (.goto (-23), 30, 4, .null, [])),
  (30, (.iload_n 1, 31, 1, .null, [])),
  (31, (.ireturn, 32, 0, .null, []))]
def mLn_greatestTurn : List (Nat × XM) := [(62, (2, 1, some 3, FLn_turnAt))]
abbrev BLn_greatestTurn : XB := (rLn_greatestTurn, XFT_Ln, mLn_greatestTurn, 1, XST_Ln)
set_option maxRecDepth 100000 in
theorem kLn_greatestTurn : XOK BLn_greatestTurn cX3_greatestTurn 3 RX3 3 66 := xok_of (cps := [(49, 2)]) (K := XKT_Ln) (by decide +kernel) XKT_Ln_ok (List.forall_mem_cons.mpr ⟨lkLn_cp49 _ _ (Nat.le_of_ble_eq_true rfl) (Nat.le_of_ble_eq_true rfl), fun _ h => absurd h List.not_mem_nil⟩) XFT_Ln_ok (List.forall_mem_cons.mpr ⟨⟨_, _, _, _, _, _, _, SLn_turnAt, rfl, rfl, Nat.le_of_ble_eq_true rfl, Nat.le_of_ble_eq_true rfl, cdLn_turnAt, lkLn_62, imLn_turnAt, slLn_turnAt, inLn_turnAt, pmLn_turnAt⟩, fun _ h => absurd h List.not_mem_nil⟩) XST_Ln_ok
def wLn_greatestTurn_4 (f : Nat → Int32 → Int32 → XH → XR) : List Value → List Value → XH → XR := fun vs st h => match vs, st with
  | [.ref a0, .int x1, .int x2], [] => f a0 x1 x2 h
  | _, _ => none
def wLn_greatestTurn (f : Nat → XH → XR) : List Value → List Value → XH → XR := fun vs st h => match vs, st with
  | [.ref a0], [] => f a0 h
  | _, _ => none
set_option maxRecDepth 100000 in
theorem eLn_greatestTurn_4_b (k4 : Nat → Int32 → Int32 → XH → XR) (a0 : Nat) (x1 : Int32) (x2 : Int32) (h : XH) : qLn_greatestTurn_4_b k4 a0 x1 x2 h = xrun BLn_greatestTurn (xfind [(4, ([0, 1, 2], wLn_greatestTurn_4 (k4)))]) 23 4 (List.zip [0, 1, 2] [.ref a0, .int x1, .int x2]) [] h := rfl
theorem tLn_greatestTurn_4_b {k4 : Nat → Int32 → Int32 → XH → XR} (hk4 : XTo cX3_greatestTurn 3 RX3 1 3 66 4 [0, 1, 2] (wLn_greatestTurn_4 k4)) : XTo cX3_greatestTurn 3 RX3 1 3 66 4 [0, 1, 2] (wLn_greatestTurn_4 (qLn_greatestTurn_4_b k4)) := by
  refine XTo.run (B := BLn_greatestTurn) (cut := xfind [(4, ([0, 1, 2], wLn_greatestTurn_4 (k4)))]) kLn_greatestTurn (xcuts_ok (List.forall_mem_cons.mpr ⟨hk4, fun _ h => absurd h List.not_mem_nil⟩)) 23 (fun vs st h r hr => ?_)
  unfold wLn_greatestTurn_4 at hr
  split at hr
  · exact (eLn_greatestTurn_4_b k4 _ _ _ _).symm.trans hr
  · cases hr
theorem tLn_greatestTurn_4 : ∀ n : Nat, XTo cX3_greatestTurn 3 RX3 1 3 66 4 [0, 1, 2] (wLn_greatestTurn_4 (qLn_greatestTurn_4 n)) := by
  intro n
  induction n with
  | zero =>
    refine XTo.none fun vs st h => ?_
    unfold wLn_greatestTurn_4
    split <;> rfl
  | succ n ih => exact tLn_greatestTurn_4_b  ih
set_option maxRecDepth 100000 in
theorem eLn_greatestTurn (a0 : Nat) (h : XH) : qLn_greatestTurn a0 h = xrun BLn_greatestTurn (xfind [(4, ([0, 1, 2], wLn_greatestTurn_4 (qLn_greatestTurn_4 LF)))]) 23 0 (List.zip [0] [.ref a0]) [] h := rfl
theorem tLn_greatestTurn : XTo cX3_greatestTurn 3 RX3 1 3 66 0 [0] (wLn_greatestTurn (qLn_greatestTurn)) := by
  refine XTo.run (B := BLn_greatestTurn) (cut := xfind [(4, ([0, 1, 2], wLn_greatestTurn_4 (qLn_greatestTurn_4 LF)))]) kLn_greatestTurn (xcuts_ok (List.forall_mem_cons.mpr ⟨tLn_greatestTurn_4 LF, fun _ h => absurd h List.not_mem_nil⟩)) 23 (fun vs st h r hr => ?_)
  unfold wLn_greatestTurn at hr
  split at hr
  · exact (eLn_greatestTurn _ _).symm.trans hr
  · cases hr
def FLn_greatestTurn : List Value → XH → XR := fun vs h => match vs with
  | [.ref a0] => qLn_greatestTurn a0 h
  | _ => none
theorem SLn_greatestTurn : XS yX3_greatestTurn cX3_greatestTurn 3 (some .int) (xrm 3 66) FLn_greatestTurn := by
  refine XS.of (own := RX3) (by decide) rfl (rk := 1) rfl (tLn_greatestTurn) (fun vs h r hr => ?_)
  unfold FLn_greatestTurn at hr
  split at hr
  · exact ⟨rfl, Nat.le_of_ble_eq_true rfl, hr⟩
  · cases hr
-- LineDiagram$Line.sumOfTurns()I
def rLn_sumOfTurns : List (Nat × XRow) := [(0, (.iconst 0, 1, 0, .int (0 : Int32), [])),
  (1, (.istore_n 1, 2, 1, .null, [])),
  (2, (.iconst 1, 3, 0, .int (1 : Int32), [])),
  (3, (.istore_n 2, 4, 2, .null, [])),
  (4, (.iload_n 2, 5, 2, .null, [])),
  (5, (.aload_n 0, 6, 0, .null, [])),
  (6, (.getfield 22, 9, 22, .null, [])),
  (9, (.iconst 1, 10, 0, .int (1 : Int32), [])),
  (10, (.isub, 11, 0, .null, [])),
  (11, (.if_icmp .ge 17, 14, 28, .null, [])),
  (14, (.iload_n 1, 15, 1, .null, [])),
  (15, (.aload_n 0, 16, 0, .null, [])),
  (16, (.iload_n 2, 17, 2, .null, [])),
  (17, (.invokevirtual 62, 20, 62, .null, [])),
  (20, (.iadd, 21, 0, .null, [])),
  (21, (.istore_n 1, 22, 1, .null, [])),
  (22, (.iinc 2 1, 25, 2, .int (1 : Int32), [])),
  (25, (.goto (-21), 28, 4, .null, [])),
  (28, (.iload_n 1, 29, 1, .null, [])),
  (29, (.ireturn, 30, 0, .null, []))]
def mLn_sumOfTurns : List (Nat × XM) := [(62, (2, 1, some 3, FLn_turnAt))]
abbrev BLn_sumOfTurns : XB := (rLn_sumOfTurns, XFT_Ln, mLn_sumOfTurns, 1, XST_Ln)
set_option maxRecDepth 100000 in
theorem kLn_sumOfTurns : XOK BLn_sumOfTurns cX3_sumOfTurns 3 RX3 3 66 := xok_of (cps := []) (K := XKT_Ln) (by decide +kernel) XKT_Ln_ok (fun _ h => absurd h List.not_mem_nil) XFT_Ln_ok (List.forall_mem_cons.mpr ⟨⟨_, _, _, _, _, _, _, SLn_turnAt, rfl, rfl, Nat.le_of_ble_eq_true rfl, Nat.le_of_ble_eq_true rfl, cdLn_turnAt, lkLn_62, imLn_turnAt, slLn_turnAt, inLn_turnAt, pmLn_turnAt⟩, fun _ h => absurd h List.not_mem_nil⟩) XST_Ln_ok
def wLn_sumOfTurns_4 (f : Nat → Int32 → Int32 → XH → XR) : List Value → List Value → XH → XR := fun vs st h => match vs, st with
  | [.ref a0, .int x1, .int x2], [] => f a0 x1 x2 h
  | _, _ => none
def wLn_sumOfTurns (f : Nat → XH → XR) : List Value → List Value → XH → XR := fun vs st h => match vs, st with
  | [.ref a0], [] => f a0 h
  | _, _ => none
set_option maxRecDepth 100000 in
theorem eLn_sumOfTurns_4_b (k4 : Nat → Int32 → Int32 → XH → XR) (a0 : Nat) (x1 : Int32) (x2 : Int32) (h : XH) : qLn_sumOfTurns_4_b k4 a0 x1 x2 h = xrun BLn_sumOfTurns (xfind [(4, ([0, 1, 2], wLn_sumOfTurns_4 (k4)))]) 23 4 (List.zip [0, 1, 2] [.ref a0, .int x1, .int x2]) [] h := rfl
theorem tLn_sumOfTurns_4_b {k4 : Nat → Int32 → Int32 → XH → XR} (hk4 : XTo cX3_sumOfTurns 3 RX3 1 3 66 4 [0, 1, 2] (wLn_sumOfTurns_4 k4)) : XTo cX3_sumOfTurns 3 RX3 1 3 66 4 [0, 1, 2] (wLn_sumOfTurns_4 (qLn_sumOfTurns_4_b k4)) := by
  refine XTo.run (B := BLn_sumOfTurns) (cut := xfind [(4, ([0, 1, 2], wLn_sumOfTurns_4 (k4)))]) kLn_sumOfTurns (xcuts_ok (List.forall_mem_cons.mpr ⟨hk4, fun _ h => absurd h List.not_mem_nil⟩)) 23 (fun vs st h r hr => ?_)
  unfold wLn_sumOfTurns_4 at hr
  split at hr
  · exact (eLn_sumOfTurns_4_b k4 _ _ _ _).symm.trans hr
  · cases hr
theorem tLn_sumOfTurns_4 : ∀ n : Nat, XTo cX3_sumOfTurns 3 RX3 1 3 66 4 [0, 1, 2] (wLn_sumOfTurns_4 (qLn_sumOfTurns_4 n)) := by
  intro n
  induction n with
  | zero =>
    refine XTo.none fun vs st h => ?_
    unfold wLn_sumOfTurns_4
    split <;> rfl
  | succ n ih => exact tLn_sumOfTurns_4_b  ih
set_option maxRecDepth 100000 in
theorem eLn_sumOfTurns (a0 : Nat) (h : XH) : qLn_sumOfTurns a0 h = xrun BLn_sumOfTurns (xfind [(4, ([0, 1, 2], wLn_sumOfTurns_4 (qLn_sumOfTurns_4 LF)))]) 23 0 (List.zip [0] [.ref a0]) [] h := rfl
theorem tLn_sumOfTurns : XTo cX3_sumOfTurns 3 RX3 1 3 66 0 [0] (wLn_sumOfTurns (qLn_sumOfTurns)) := by
  refine XTo.run (B := BLn_sumOfTurns) (cut := xfind [(4, ([0, 1, 2], wLn_sumOfTurns_4 (qLn_sumOfTurns_4 LF)))]) kLn_sumOfTurns (xcuts_ok (List.forall_mem_cons.mpr ⟨tLn_sumOfTurns_4 LF, fun _ h => absurd h List.not_mem_nil⟩)) 23 (fun vs st h r hr => ?_)
  unfold wLn_sumOfTurns at hr
  split at hr
  · exact (eLn_sumOfTurns _ _).symm.trans hr
  · cases hr
def FLn_sumOfTurns : List Value → XH → XR := fun vs h => match vs with
  | [.ref a0] => qLn_sumOfTurns a0 h
  | _ => none
theorem SLn_sumOfTurns : XS yX3_sumOfTurns cX3_sumOfTurns 3 (some .int) (xrm 3 66) FLn_sumOfTurns := by
  refine XS.of (own := RX3) (by decide) rfl (rk := 1) rfl (tLn_sumOfTurns) (fun vs h r hr => ?_)
  unfold FLn_sumOfTurns at hr
  split at hr
  · exact ⟨rfl, Nat.le_of_ble_eq_true rfl, hr⟩
  · cases hr
-- LineDiagram$Line.slantingSteps()I
def rLn_slantingSteps : List (Nat × XRow) := [(0, (.iconst 0, 1, 0, .int (0 : Int32), [])),
  (1, (.istore_n 1, 2, 1, .null, [])),
  (2, (.iconst 0, 3, 0, .int (0 : Int32), [])),
  (3, (.istore_n 2, 4, 2, .null, [])),
  (4, (.iload_n 2, 5, 2, .null, [])),
  (5, (.aload_n 0, 6, 0, .null, [])),
  (6, (.getfield 22, 9, 22, .null, [])),
  (9, (.iconst 1, 10, 0, .int (1 : Int32), [])),
  (10, (.isub, 11, 0, .null, [])),
  (11, (.if_icmp .ge 28, 14, 39, .null, [])),
  (14, (.aload_n 0, 15, 0, .null, [])),
  (15, (.iload_n 2, 16, 2, .null, [])),
  (16, (.invokevirtual 56, 19, 56, .null, [])),
  (19, (.iconst 2, 20, 0, .int (2 : Int32), [])),
  (20, (.irem, 21, 0, .null, [])),
  (21, (.iconst 1, 22, 0, .int (1 : Int32), [])),
  (22, (.if_icmp .ne 11, 25, 33, .null, [])),
  (25, (.iload_n 1, 26, 1, .null, [])),
  (26, (.aload_n 0, 27, 0, .null, [])),
  (27, (.iload_n 2, 28, 2, .null, [])),
  (28, (.invokevirtual 53, 31, 53, .null, [])),
  (31, (.iadd, 32, 0, .null, [])),
  (32, (.istore_n 1, 33, 1, .null, [])),
  (33, (.iinc 2 1, 36, 2, .int (1 : Int32), [])),
  (36, (.goto (-32), 39, 4, .null, [])),
  (39, (.iload_n 1, 40, 1, .null, [])),
  (40, (.ireturn, 41, 0, .null, []))]
def mLn_slantingSteps : List (Nat × XM) := [(53, (2, 1, some 3, FLn_stepsOfRun)), (56, (2, 1, some 3, FLn_wayOfRun))]
abbrev BLn_slantingSteps : XB := (rLn_slantingSteps, XFT_Ln, mLn_slantingSteps, 1, XST_Ln)
set_option maxRecDepth 100000 in
theorem kLn_slantingSteps : XOK BLn_slantingSteps cX3_slantingSteps 3 RX3 2 44 := xok_of (cps := []) (K := XKT_Ln) (by decide +kernel) XKT_Ln_ok (fun _ h => absurd h List.not_mem_nil) XFT_Ln_ok (List.forall_mem_cons.mpr ⟨⟨_, _, _, _, _, _, _, SLn_stepsOfRun, rfl, rfl, Nat.le_of_ble_eq_true rfl, Nat.le_of_ble_eq_true rfl, cdLn_stepsOfRun, lkLn_53, imLn_stepsOfRun, slLn_stepsOfRun, inLn_stepsOfRun, pmLn_stepsOfRun⟩, List.forall_mem_cons.mpr ⟨⟨_, _, _, _, _, _, _, SLn_wayOfRun, rfl, rfl, Nat.le_of_ble_eq_true rfl, Nat.le_of_ble_eq_true rfl, cdLn_wayOfRun, lkLn_56, imLn_wayOfRun, slLn_wayOfRun, inLn_wayOfRun, pmLn_wayOfRun⟩, fun _ h => absurd h List.not_mem_nil⟩⟩) XST_Ln_ok
def wLn_slantingSteps_4 (f : Nat → Int32 → Int32 → XH → XR) : List Value → List Value → XH → XR := fun vs st h => match vs, st with
  | [.ref a0, .int x1, .int x2], [] => f a0 x1 x2 h
  | _, _ => none
def wLn_slantingSteps (f : Nat → XH → XR) : List Value → List Value → XH → XR := fun vs st h => match vs, st with
  | [.ref a0], [] => f a0 h
  | _, _ => none
set_option maxRecDepth 100000 in
theorem eLn_slantingSteps_4_b (k4 : Nat → Int32 → Int32 → XH → XR) (a0 : Nat) (x1 : Int32) (x2 : Int32) (h : XH) : qLn_slantingSteps_4_b k4 a0 x1 x2 h = xrun BLn_slantingSteps (xfind [(4, ([0, 1, 2], wLn_slantingSteps_4 (k4)))]) 30 4 (List.zip [0, 1, 2] [.ref a0, .int x1, .int x2]) [] h := rfl
theorem tLn_slantingSteps_4_b {k4 : Nat → Int32 → Int32 → XH → XR} (hk4 : XTo cX3_slantingSteps 3 RX3 1 2 44 4 [0, 1, 2] (wLn_slantingSteps_4 k4)) : XTo cX3_slantingSteps 3 RX3 1 2 44 4 [0, 1, 2] (wLn_slantingSteps_4 (qLn_slantingSteps_4_b k4)) := by
  refine XTo.run (B := BLn_slantingSteps) (cut := xfind [(4, ([0, 1, 2], wLn_slantingSteps_4 (k4)))]) kLn_slantingSteps (xcuts_ok (List.forall_mem_cons.mpr ⟨hk4, fun _ h => absurd h List.not_mem_nil⟩)) 30 (fun vs st h r hr => ?_)
  unfold wLn_slantingSteps_4 at hr
  split at hr
  · exact (eLn_slantingSteps_4_b k4 _ _ _ _).symm.trans hr
  · cases hr
theorem tLn_slantingSteps_4 : ∀ n : Nat, XTo cX3_slantingSteps 3 RX3 1 2 44 4 [0, 1, 2] (wLn_slantingSteps_4 (qLn_slantingSteps_4 n)) := by
  intro n
  induction n with
  | zero =>
    refine XTo.none fun vs st h => ?_
    unfold wLn_slantingSteps_4
    split <;> rfl
  | succ n ih => exact tLn_slantingSteps_4_b  ih
set_option maxRecDepth 100000 in
theorem eLn_slantingSteps (a0 : Nat) (h : XH) : qLn_slantingSteps a0 h = xrun BLn_slantingSteps (xfind [(4, ([0, 1, 2], wLn_slantingSteps_4 (qLn_slantingSteps_4 LF)))]) 30 0 (List.zip [0] [.ref a0]) [] h := rfl
theorem tLn_slantingSteps : XTo cX3_slantingSteps 3 RX3 1 2 44 0 [0] (wLn_slantingSteps (qLn_slantingSteps)) := by
  refine XTo.run (B := BLn_slantingSteps) (cut := xfind [(4, ([0, 1, 2], wLn_slantingSteps_4 (qLn_slantingSteps_4 LF)))]) kLn_slantingSteps (xcuts_ok (List.forall_mem_cons.mpr ⟨tLn_slantingSteps_4 LF, fun _ h => absurd h List.not_mem_nil⟩)) 30 (fun vs st h r hr => ?_)
  unfold wLn_slantingSteps at hr
  split at hr
  · exact (eLn_slantingSteps _ _).symm.trans hr
  · cases hr
def FLn_slantingSteps : List Value → XH → XR := fun vs h => match vs with
  | [.ref a0] => qLn_slantingSteps a0 h
  | _ => none
theorem SLn_slantingSteps : XS yX3_slantingSteps cX3_slantingSteps 3 (some .int) (xrm 2 44) FLn_slantingSteps := by
  refine XS.of (own := RX3) (by decide) rfl (rk := 1) rfl (tLn_slantingSteps) (fun vs h r hr => ?_)
  unfold FLn_slantingSteps at hr
  split at hr
  · exact ⟨rfl, Nat.le_of_ble_eq_true rfl, hr⟩
  · cases hr
