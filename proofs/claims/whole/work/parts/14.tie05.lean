-- LineDiagramModel.isNewName()Z
def rM_isNewName : List (Nat × XRow) := [(0, (.aload_n 0, 1, 0, .null, [])),
  (1, (.getfield 245, 4, 245, .null, [])),
  (4, (.iconst 1, 5, 0, .int (1 : Int32), [])),
  (5, (.if_icmp .ne 7, 8, 12, .null, [])),
  (8, (.iconst 1, 9, 0, .int (1 : Int32), [])),
  (9, (.goto 4, 12, 13, .null, [])),
  (12, (.iconst 0, 13, 0, .int (0 : Int32), [])),
  (13, (.istore_n 1, 14, 1, .null, [])),
  (14, (.iconst 0, 15, 0, .int (0 : Int32), [])),
  (15, (.istore_n 2, 16, 2, .null, [])),
  (16, (.iload_n 2, 17, 2, .null, [])),
  (17, (.aload_n 0, 18, 0, .null, [])),
  (18, (.getfield 277, 21, 277, .null, [])),
  (21, (.if_icmp .ge 32, 24, 53, .null, [])),
  (24, (.iload_n 1, 25, 1, .null, [])),
  (25, (.ifCond .eq 20, 28, 45, .null, [])),
  (28, (.aload_n 0, 29, 0, .null, [])),
  (29, (.getfield 61, 32, 61, .null, [])),
  (32, (.iload_n 2, 33, 2, .null, [])),
  (33, (.iaload, 34, 0, .null, [])),
  (34, (.aload_n 0, 35, 0, .null, [])),
  (35, (.getfield 230, 38, 230, .null, [])),
  (38, (.if_icmp .eq 7, 41, 45, .null, [])),
  (41, (.iconst 1, 42, 0, .int (1 : Int32), [])),
  (42, (.goto 4, 45, 46, .null, [])),
  (45, (.iconst 0, 46, 0, .int (0 : Int32), [])),
  (46, (.istore_n 1, 47, 1, .null, [])),
  (47, (.iinc 2 1, 50, 2, .int (1 : Int32), [])),
  (50, (.goto (-34), 53, 16, .null, [])),
  (53, (.iload_n 1, 54, 1, .null, [])),
  (54, (.ireturn, 55, 0, .null, []))]
def mM_isNewName : List (Nat × XM) := []
abbrev BM_isNewName : XB := (rM_isNewName, XFT_M, mM_isNewName, 6, XST_M)
set_option maxRecDepth 100000 in
theorem kM_isNewName : XOK BM_isNewName cX9_isNewName 3 RX9 0 0 := xok_of (cps := []) (K := XKT_M) (by decide +kernel) XKT_M_ok (fun _ h => absurd h List.not_mem_nil) XFT_M_ok (fun _ h => absurd h List.not_mem_nil) XST_M_ok
def wM_isNewName_16 (f : Nat → Int32 → Int32 → XH → XR) : List Value → List Value → XH → XR := fun vs st h => match vs, st with
  | [.ref a0, .int x1, .int x2], [] => f a0 x1 x2 h
  | _, _ => none
def wM_isNewName (f : Nat → XH → XR) : List Value → List Value → XH → XR := fun vs st h => match vs, st with
  | [.ref a0], [] => f a0 h
  | _, _ => none
set_option maxRecDepth 100000 in
theorem eM_isNewName_16_b (k16 : Nat → Int32 → Int32 → XH → XR) (a0 : Nat) (x1 : Int32) (x2 : Int32) (h : XH) : qM_isNewName_16_b k16 a0 x1 x2 h = xrun BM_isNewName (xfind [(16, ([0, 1, 2], wM_isNewName_16 (k16)))]) 34 16 (List.zip [0, 1, 2] [.ref a0, .int x1, .int x2]) [] h := rfl
theorem tM_isNewName_16_b {k16 : Nat → Int32 → Int32 → XH → XR} (hk16 : XTo cX9_isNewName 3 RX9 6 0 0 16 [0, 1, 2] (wM_isNewName_16 k16)) : XTo cX9_isNewName 3 RX9 6 0 0 16 [0, 1, 2] (wM_isNewName_16 (qM_isNewName_16_b k16)) := by
  refine XTo.run (B := BM_isNewName) (cut := xfind [(16, ([0, 1, 2], wM_isNewName_16 (k16)))]) kM_isNewName (xcuts_ok (List.forall_mem_cons.mpr ⟨hk16, fun _ h => absurd h List.not_mem_nil⟩)) 34 (fun vs st h r hr => ?_)
  unfold wM_isNewName_16 at hr
  split at hr
  · exact (eM_isNewName_16_b k16 _ _ _ _).symm.trans hr
  · cases hr
theorem tM_isNewName_16 : ∀ n : Nat, XTo cX9_isNewName 3 RX9 6 0 0 16 [0, 1, 2] (wM_isNewName_16 (qM_isNewName_16 n)) := by
  intro n
  induction n with
  | zero =>
    refine XTo.none fun vs st h => ?_
    unfold wM_isNewName_16
    split <;> rfl
  | succ n ih => exact tM_isNewName_16_b  ih
set_option maxRecDepth 100000 in
theorem eM_isNewName (a0 : Nat) (h : XH) : qM_isNewName a0 h = xrun BM_isNewName (xfind [(16, ([0, 1, 2], wM_isNewName_16 (qM_isNewName_16 LF)))]) 34 0 (List.zip [0] [.ref a0]) [] h := rfl
theorem tM_isNewName : XTo cX9_isNewName 3 RX9 6 0 0 0 [0] (wM_isNewName (qM_isNewName)) := by
  refine XTo.run (B := BM_isNewName) (cut := xfind [(16, ([0, 1, 2], wM_isNewName_16 (qM_isNewName_16 LF)))]) kM_isNewName (xcuts_ok (List.forall_mem_cons.mpr ⟨tM_isNewName_16 LF, fun _ h => absurd h List.not_mem_nil⟩)) 34 (fun vs st h r hr => ?_)
  unfold wM_isNewName at hr
  split at hr
  · exact (eM_isNewName _ _).symm.trans hr
  · cases hr
def FM_isNewName : List Value → XH → XR := fun vs h => match vs with
  | [.ref a0] => qM_isNewName a0 h
  | _ => none
theorem SM_isNewName : XS yX9_isNewName cX9_isNewName 3 (some .boolean) (xrm 0 0) FM_isNewName := by
  refine XS.of (own := RX9) (by decide) rfl (rk := 6) rfl (tM_isNewName) (fun vs h r hr => ?_)
  unfold FM_isNewName at hr
  split at hr
  · exact ⟨rfl, Nat.le_of_ble_eq_true rfl, hr⟩
  · cases hr
-- LineDiagramModel.size(I)I
def rM_size : List (Nat × XRow) := [(0, (.iload_n 0, 1, 0, .null, [])),
  (1, (.ifCond .ge 8, 4, 9, .null, [])),
  (4, (.iload_n 0, 5, 0, .null, [])),
  (5, (.ineg, 6, 0, .null, [])),
  (6, (.goto 4, 9, 10, .null, [])),
  (9, (.iload_n 0, 10, 0, .null, [])),
  (10, (.ireturn, 11, 0, .null, []))]
def mM_size : List (Nat × XM) := []
abbrev BM_size : XB := (rM_size, XFT_M, mM_size, 1, XST_M)
set_option maxRecDepth 100000 in
theorem kM_size : XOK BM_size cX9_size 1 RX9 0 0 := xok_of (cps := []) (K := XKT_M) (by decide +kernel) XKT_M_ok (fun _ h => absurd h List.not_mem_nil) XFT_M_ok (fun _ h => absurd h List.not_mem_nil) XST_M_ok
def wM_size (f : Int32 → XH → XR) : List Value → List Value → XH → XR := fun vs st h => match vs, st with
  | [.int x0], [] => f x0 h
  | _, _ => none
set_option maxRecDepth 100000 in
theorem eM_size (x0 : Int32) (h : XH) : qM_size x0 h = xrun BM_size (xfind []) 10 0 (List.zip [0] [.int x0]) [] h := rfl
theorem tM_size : XTo cX9_size 1 RX9 1 0 0 0 [0] (wM_size (qM_size)) := by
  refine XTo.run (B := BM_size) (cut := xfind []) kM_size (xcuts_ok (fun _ h => absurd h List.not_mem_nil)) 10 (fun vs st h r hr => ?_)
  unfold wM_size at hr
  split at hr
  · exact (eM_size _ _).symm.trans hr
  · cases hr
def FM_size : List Value → XH → XR := fun vs h => match vs with
  | [.int x0] => qM_size x0 h
  | _ => none
theorem SM_size : XS yX9_size cX9_size 1 (some .int) (xrm 0 0) FM_size := by
  refine XS.of (own := RX9) (by decide) rfl (rk := 1) rfl (tM_size) (fun vs h r hr => ?_)
  unfold FM_size at hr
  split at hr
  · exact ⟨rfl, Nat.le_of_ble_eq_true rfl, hr⟩
  · cases hr
-- LineDiagramModel.newX(I)I
def rM_newX : List (Nat × XRow) := [(0, (.aload_n 0, 1, 0, .null, [])),
  (1, (.getfield 64, 4, 64, .null, [])),
  (4, (.aload_n 0, 5, 0, .null, [])),
  (5, (.iconst 3, 6, 0, .int (3 : Int32), [])),
  (6, (.iconst 2, 7, 0, .int (2 : Int32), [])),
  (7, (.iload_n 1, 8, 1, .null, [])),
  (8, (.imul, 9, 0, .null, [])),
  (9, (.iadd, 10, 0, .null, [])),
  (10, (.invokevirtual 280, 13, 280, .null, [])),
  (13, (.iaload, 14, 0, .null, [])),
  (14, (.ireturn, 15, 0, .null, []))]
def mM_newX : List (Nat × XM) := [(280, (2, 1, some 9, FM_newAt))]
abbrev BM_newX : XB := (rM_newX, XFT_M, mM_newX, 1, XST_M)
set_option maxRecDepth 100000 in
theorem kM_newX : XOK BM_newX cX9_newX 2 RX9 1 21 := xok_of (cps := []) (K := XKT_M) (by decide +kernel) XKT_M_ok (fun _ h => absurd h List.not_mem_nil) XFT_M_ok (List.forall_mem_cons.mpr ⟨⟨_, _, _, _, _, _, _, SM_newAt, rfl, rfl, Nat.le_of_ble_eq_true rfl, Nat.le_of_ble_eq_true rfl, cdM_newAt, lkM_280, imM_newAt, slM_newAt, inM_newAt, pmM_newAt⟩, fun _ h => absurd h List.not_mem_nil⟩) XST_M_ok
def wM_newX (f : Nat → Int32 → XH → XR) : List Value → List Value → XH → XR := fun vs st h => match vs, st with
  | [.ref a0, .int x1], [] => f a0 x1 h
  | _, _ => none
set_option maxRecDepth 100000 in
theorem eM_newX (a0 : Nat) (x1 : Int32) (h : XH) : qM_newX a0 x1 h = xrun BM_newX (xfind []) 14 0 (List.zip [0, 1] [.ref a0, .int x1]) [] h := rfl
theorem tM_newX : XTo cX9_newX 2 RX9 1 1 21 0 [0, 1] (wM_newX (qM_newX)) := by
  refine XTo.run (B := BM_newX) (cut := xfind []) kM_newX (xcuts_ok (fun _ h => absurd h List.not_mem_nil)) 14 (fun vs st h r hr => ?_)
  unfold wM_newX at hr
  split at hr
  · exact (eM_newX _ _ _).symm.trans hr
  · cases hr
def FM_newX : List Value → XH → XR := fun vs h => match vs with
  | [.ref a0, .int x1] => qM_newX a0 x1 h
  | _ => none
theorem SM_newX : XS yX9_newX cX9_newX 2 (some .int) (xrm 1 21) FM_newX := by
  refine XS.of (own := RX9) (by decide) rfl (rk := 1) rfl (tM_newX) (fun vs h r hr => ?_)
  unfold FM_newX at hr
  split at hr
  · exact ⟨rfl, Nat.le_of_ble_eq_true rfl, hr⟩
  · cases hr
-- LineDiagramModel.newY(I)I
def rM_newY : List (Nat × XRow) := [(0, (.aload_n 0, 1, 0, .null, [])),
  (1, (.getfield 64, 4, 64, .null, [])),
  (4, (.aload_n 0, 5, 0, .null, [])),
  (5, (.iconst 3, 6, 0, .int (3 : Int32), [])),
  (6, (.iconst 2, 7, 0, .int (2 : Int32), [])),
  (7, (.iload_n 1, 8, 1, .null, [])),
  (8, (.imul, 9, 0, .null, [])),
  (9, (.iadd, 10, 0, .null, [])),
  (10, (.iconst 1, 11, 0, .int (1 : Int32), [])),
  (11, (.iadd, 12, 0, .null, [])),
  (12, (.invokevirtual 280, 15, 280, .null, [])),
  (15, (.iaload, 16, 0, .null, [])),
  (16, (.ireturn, 17, 0, .null, []))]
def mM_newY : List (Nat × XM) := [(280, (2, 1, some 9, FM_newAt))]
abbrev BM_newY : XB := (rM_newY, XFT_M, mM_newY, 1, XST_M)
set_option maxRecDepth 100000 in
theorem kM_newY : XOK BM_newY cX9_newY 2 RX9 1 21 := xok_of (cps := []) (K := XKT_M) (by decide +kernel) XKT_M_ok (fun _ h => absurd h List.not_mem_nil) XFT_M_ok (List.forall_mem_cons.mpr ⟨⟨_, _, _, _, _, _, _, SM_newAt, rfl, rfl, Nat.le_of_ble_eq_true rfl, Nat.le_of_ble_eq_true rfl, cdM_newAt, lkM_280, imM_newAt, slM_newAt, inM_newAt, pmM_newAt⟩, fun _ h => absurd h List.not_mem_nil⟩) XST_M_ok
def wM_newY (f : Nat → Int32 → XH → XR) : List Value → List Value → XH → XR := fun vs st h => match vs, st with
  | [.ref a0, .int x1], [] => f a0 x1 h
  | _, _ => none
set_option maxRecDepth 100000 in
theorem eM_newY (a0 : Nat) (x1 : Int32) (h : XH) : qM_newY a0 x1 h = xrun BM_newY (xfind []) 16 0 (List.zip [0, 1] [.ref a0, .int x1]) [] h := rfl
theorem tM_newY : XTo cX9_newY 2 RX9 1 1 21 0 [0, 1] (wM_newY (qM_newY)) := by
  refine XTo.run (B := BM_newY) (cut := xfind []) kM_newY (xcuts_ok (fun _ h => absurd h List.not_mem_nil)) 16 (fun vs st h r hr => ?_)
  unfold wM_newY at hr
  split at hr
  · exact (eM_newY _ _ _).symm.trans hr
  · cases hr
def FM_newY : List Value → XH → XR := fun vs h => match vs with
  | [.ref a0, .int x1] => qM_newY a0 x1 h
  | _ => none
theorem SM_newY : XS yX9_newY cX9_newY 2 (some .int) (xrm 1 21) FM_newY := by
  refine XS.of (own := RX9) (by decide) rfl (rk := 1) rfl (tM_newY) (fun vs h r hr => ?_)
  unfold FM_newY at hr
  split at hr
  · exact ⟨rfl, Nat.le_of_ble_eq_true rfl, hr⟩
  · cases hr
-- LineDiagramModel.dx(I)I
def rM_dx : List (Nat × XRow) := [(0, (.iload_n 0, 1, 0, .null, [])),
  (1, (.iconst 2, 2, 0, .int (2 : Int32), [])),
  (2, (.if_icmp .eq 9, 5, 11, .null, [])),
  (5, (.iload_n 0, 6, 0, .null, [])),
  (6, (.bipush 6, 8, 0, .int (6 : Int32), [])),
  (8, (.if_icmp .ne 7, 11, 15, .null, [])),
  (11, (.iconst 0, 12, 0, .int (0 : Int32), [])),
  (12, (.goto 19, 15, 31, .null, [])),
  (15, (.iload_n 0, 16, 0, .null, [])),
  (16, (.iconst 2, 17, 0, .int (2 : Int32), [])),
  (17, (.if_icmp .le 13, 20, 30, .null, [])),
  (20, (.iload_n 0, 21, 0, .null, [])),
  (21, (.bipush 6, 23, 0, .int (6 : Int32), [])),
  (23, (.if_icmp .ge 7, 26, 30, .null, [])),
  (26, (.iconst (-1), 27, 0, .int (-1 : Int32), [])),
  (27, (.goto 4, 30, 31, .null, [])),
  (30, (.iconst 1, 31, 0, .int (1 : Int32), [])),
  (31, (.ireturn, 32, 0, .null, []))]
def mM_dx : List (Nat × XM) := []
abbrev BM_dx : XB := (rM_dx, XFT_M, mM_dx, 1, XST_M)
set_option maxRecDepth 100000 in
theorem kM_dx : XOK BM_dx cX9_dx 1 RX9 0 0 := xok_of (cps := []) (K := XKT_M) (by decide +kernel) XKT_M_ok (fun _ h => absurd h List.not_mem_nil) XFT_M_ok (fun _ h => absurd h List.not_mem_nil) XST_M_ok
def wM_dx (f : Int32 → XH → XR) : List Value → List Value → XH → XR := fun vs st h => match vs, st with
  | [.int x0], [] => f x0 h
  | _, _ => none
set_option maxRecDepth 100000 in
theorem eM_dx (x0 : Int32) (h : XH) : qM_dx x0 h = xrun BM_dx (xfind []) 21 0 (List.zip [0] [.int x0]) [] h := rfl
theorem tM_dx : XTo cX9_dx 1 RX9 1 0 0 0 [0] (wM_dx (qM_dx)) := by
  refine XTo.run (B := BM_dx) (cut := xfind []) kM_dx (xcuts_ok (fun _ h => absurd h List.not_mem_nil)) 21 (fun vs st h r hr => ?_)
  unfold wM_dx at hr
  split at hr
  · exact (eM_dx _ _).symm.trans hr
  · cases hr
def FM_dx : List Value → XH → XR := fun vs h => match vs with
  | [.int x0] => qM_dx x0 h
  | _ => none
theorem SM_dx : XS yX9_dx cX9_dx 1 (some .int) (xrm 0 0) FM_dx := by
  refine XS.of (own := RX9) (by decide) rfl (rk := 1) rfl (tM_dx) (fun vs h r hr => ?_)
  unfold FM_dx at hr
  split at hr
  · exact ⟨rfl, Nat.le_of_ble_eq_true rfl, hr⟩
  · cases hr
-- LineDiagramModel.sign(I)I
def rM_sign : List (Nat × XRow) := [(0, (.iload_n 0, 1, 0, .null, [])),
  (1, (.ifCond .ge 7, 4, 8, .null, [])),
  (4, (.iconst (-1), 5, 0, .int (-1 : Int32), [])),
  (5, (.goto 12, 8, 17, .null, [])),
  (8, (.iload_n 0, 9, 0, .null, [])),
  (9, (.ifCond .le 7, 12, 16, .null, [])),
  (12, (.iconst 1, 13, 0, .int (1 : Int32), [])),
  (13, (.goto 4, 16, 17, .null, [])),
  (16, (.iconst 0, 17, 0, .int (0 : Int32), [])),
  (17, (.ireturn, 18, 0, .null, []))]
def mM_sign : List (Nat × XM) := []
abbrev BM_sign : XB := (rM_sign, XFT_M, mM_sign, 1, XST_M)
set_option maxRecDepth 100000 in
theorem kM_sign : XOK BM_sign cX9_sign 1 RX9 0 0 := xok_of (cps := []) (K := XKT_M) (by decide +kernel) XKT_M_ok (fun _ h => absurd h List.not_mem_nil) XFT_M_ok (fun _ h => absurd h List.not_mem_nil) XST_M_ok
def wM_sign (f : Int32 → XH → XR) : List Value → List Value → XH → XR := fun vs st h => match vs, st with
  | [.int x0], [] => f x0 h
  | _, _ => none
set_option maxRecDepth 100000 in
theorem eM_sign (x0 : Int32) (h : XH) : qM_sign x0 h = xrun BM_sign (xfind []) 13 0 (List.zip [0] [.int x0]) [] h := rfl
theorem tM_sign : XTo cX9_sign 1 RX9 1 0 0 0 [0] (wM_sign (qM_sign)) := by
  refine XTo.run (B := BM_sign) (cut := xfind []) kM_sign (xcuts_ok (fun _ h => absurd h List.not_mem_nil)) 13 (fun vs st h r hr => ?_)
  unfold wM_sign at hr
  split at hr
  · exact (eM_sign _ _).symm.trans hr
  · cases hr
def FM_sign : List Value → XH → XR := fun vs h => match vs with
  | [.int x0] => qM_sign x0 h
  | _ => none
theorem SM_sign : XS yX9_sign cX9_sign 1 (some .int) (xrm 0 0) FM_sign := by
  refine XS.of (own := RX9) (by decide) rfl (rk := 1) rfl (tM_sign) (fun vs h r hr => ?_)
  unfold FM_sign at hr
  split at hr
  · exact ⟨rfl, Nat.le_of_ble_eq_true rfl, hr⟩
  · cases hr
-- LineDiagramModel.dy(I)I
def rM_dy : List (Nat × XRow) := [(0, (.iload_n 0, 1, 0, .null, [])),
  (1, (.ifCond .eq 8, 4, 9, .null, [])),
  (4, (.iload_n 0, 5, 0, .null, [])),
  (5, (.iconst 4, 6, 0, .int (4 : Int32), [])),
  (6, (.if_icmp .ne 7, 9, 13, .null, [])),
  (9, (.iconst 0, 10, 0, .int (0 : Int32), [])),
  (10, (.goto 13, 13, 23, .null, [])),
  (13, (.iload_n 0, 14, 0, .null, [])),
  (14, (.iconst 4, 15, 0, .int (4 : Int32), [])),
  (15, (.if_icmp .ge 7, 18, 22, .null, [])),
  (18, (.iconst 1, 19, 0, .int (1 : Int32), [])),
  (19, (.goto 4, 22, 23, .null, [])),
  (22, (.iconst (-1), 23, 0, .int (-1 : Int32), [])),
  (23, (.ireturn, 24, 0, .null, []))]
def mM_dy : List (Nat × XM) := []
abbrev BM_dy : XB := (rM_dy, XFT_M, mM_dy, 1, XST_M)
set_option maxRecDepth 100000 in
theorem kM_dy : XOK BM_dy cX9_dy 1 RX9 0 0 := xok_of (cps := []) (K := XKT_M) (by decide +kernel) XKT_M_ok (fun _ h => absurd h List.not_mem_nil) XFT_M_ok (fun _ h => absurd h List.not_mem_nil) XST_M_ok
def wM_dy (f : Int32 → XH → XR) : List Value → List Value → XH → XR := fun vs st h => match vs, st with
  | [.int x0], [] => f x0 h
  | _, _ => none
set_option maxRecDepth 100000 in
theorem eM_dy (x0 : Int32) (h : XH) : qM_dy x0 h = xrun BM_dy (xfind []) 17 0 (List.zip [0] [.int x0]) [] h := rfl
theorem tM_dy : XTo cX9_dy 1 RX9 1 0 0 0 [0] (wM_dy (qM_dy)) := by
  refine XTo.run (B := BM_dy) (cut := xfind []) kM_dy (xcuts_ok (fun _ h => absurd h List.not_mem_nil)) 17 (fun vs st h r hr => ?_)
  unfold wM_dy at hr
  split at hr
  · exact (eM_dy _ _).symm.trans hr
  · cases hr
def FM_dy : List Value → XH → XR := fun vs h => match vs with
  | [.int x0] => qM_dy x0 h
  | _ => none
theorem SM_dy : XS yX9_dy cX9_dy 1 (some .int) (xrm 0 0) FM_dy := by
  refine XS.of (own := RX9) (by decide) rfl (rk := 1) rfl (tM_dy) (fun vs h r hr => ?_)
  unfold FM_dy at hr
  split at hr
  · exact ⟨rfl, Nat.le_of_ble_eq_true rfl, hr⟩
  · cases hr
-- LineDiagramModel.wayTo(IIII)I
def rM_wayTo : List (Nat × XRow) := [(0, (.iload_n 2, 1, 2, .null, [])),
  (1, (.iload_n 0, 2, 0, .null, [])),
  (2, (.isub, 3, 0, .null, [])),
  (3, (.istore 4, 5, 4, .null, [])),
  (5, (.iload_n 3, 6, 3, .null, [])),
  (6, (.iload_n 1, 7, 1, .null, [])),
  (7, (.isub, 8, 0, .null, [])),
  (8, (.istore 5, 10, 5, .null, [])),
  (10, (.iload 4, 12, 4, .null, [])),
  (12, (.ifCond .ne 8, 15, 20, .null, [])),
  (15, (.iload 5, 17, 5, .null, [])),
  (17, (.ifCond .eq 26, 20, 43, .null, [])),
  (20, (.iload 4, 22, 4, .null, [])),
  (22, (.ifCond .eq 24, 25, 46, .null, [])),
  (25, (.iload 5, 27, 5, .null, [])),
  (27, (.ifCond .eq 19, 30, 46, .null, [])),
  (30, (.iload 4, 32, 4, .null, [])),
  (32, (.invokestatic 107, 35, 107, .null, [])),
  (35, (.iload 5, 37, 5, .null, [])),
  (37, (.invokestatic 107, 40, 107, .null, [])),
  (40, (.if_icmp .eq 6, 43, 46, .null, [])),
  (43, (.bipush (-2), 45, 0, .int (-2 : Int32), [])),
  (45, (.ireturn, 46, 0, .null, [])),
  (46, (.iconst 0, 47, 0, .int (0 : Int32), [])),
  (47, (.istore 6, 49, 6, .null, [])),
  (49, (.iload 6, 51, 6, .null, [])),
  (51, (.invokestatic 111, 54, 111, .null, [])),
  (54, (.iload 4, 56, 4, .null, [])),
  (56, (.invokestatic 114, 59, 114, .null, [])),
  (59, (.if_icmp .ne 16, 62, 75, .null, [])),
  (62, (.iload 6, 64, 6, .null, [])),
  (64, (.invokestatic 117, 67, 117, .null, [])),
  (67, (.iload 5, 69, 5, .null, [])),
  (69, (.invokestatic 114, 72, 114, .null, [])),
  (72, (.if_icmp .eq 9, 75, 81, .null, [])),
  (75, (.iinc 6 1, 78, 6, .int (1 : Int32), [])),
  (78, (.goto (-29), 81, 49, .null, [])),
  (81, (.iload 6, 83, 6, .null, [])),
  (83, (.ireturn, 84, 0, .null, []))]
def mM_wayTo : List (Nat × XM) := [(107, (1, 1, none, FM_size)), (111, (1, 1, none, FM_dx)), (114, (1, 1, none, FM_sign)), (117, (1, 1, none, FM_dy))]
abbrev BM_wayTo : XB := (rM_wayTo, XFT_M, mM_wayTo, 1, XST_M)
set_option maxRecDepth 100000 in
theorem kM_wayTo : XOK BM_wayTo cX9_wayTo 7 RX9 1 20 := xok_of (cps := []) (K := XKT_M) (by decide +kernel) XKT_M_ok (fun _ h => absurd h List.not_mem_nil) XFT_M_ok (List.forall_mem_cons.mpr ⟨⟨_, _, _, _, _, _, SM_size, Nat.le_of_ble_eq_true rfl, Nat.le_of_ble_eq_true rfl, cdM_size, lkM_107, imM_size, inM_size, pmM_size⟩, List.forall_mem_cons.mpr ⟨⟨_, _, _, _, _, _, SM_dx, Nat.le_of_ble_eq_true rfl, Nat.le_of_ble_eq_true rfl, cdM_dx, lkM_111, imM_dx, inM_dx, pmM_dx⟩, List.forall_mem_cons.mpr ⟨⟨_, _, _, _, _, _, SM_sign, Nat.le_of_ble_eq_true rfl, Nat.le_of_ble_eq_true rfl, cdM_sign, lkM_114, imM_sign, inM_sign, pmM_sign⟩, List.forall_mem_cons.mpr ⟨⟨_, _, _, _, _, _, SM_dy, Nat.le_of_ble_eq_true rfl, Nat.le_of_ble_eq_true rfl, cdM_dy, lkM_117, imM_dy, inM_dy, pmM_dy⟩, fun _ h => absurd h List.not_mem_nil⟩⟩⟩⟩) XST_M_ok
def wM_wayTo_49 (f : Int32 → Int32 → Int32 → XH → XR) : List Value → List Value → XH → XR := fun vs st h => match vs, st with
  | [.int x4, .int x5, .int x6], [] => f x4 x5 x6 h
  | _, _ => none
def wM_wayTo_20 (f : Int32 → Int32 → XH → XR) : List Value → List Value → XH → XR := fun vs st h => match vs, st with
  | [.int x4, .int x5], [] => f x4 x5 h
  | _, _ => none
def wM_wayTo (f : Int32 → Int32 → Int32 → Int32 → XH → XR) : List Value → List Value → XH → XR := fun vs st h => match vs, st with
  | [.int x0, .int x1, .int x2, .int x3], [] => f x0 x1 x2 x3 h
  | _, _ => none
set_option maxRecDepth 100000 in
theorem eM_wayTo_49_b (k49 : Int32 → Int32 → Int32 → XH → XR) (x4 : Int32) (x5 : Int32) (x6 : Int32) (h : XH) : qM_wayTo_49_b k49 x4 x5 x6 h = xrun BM_wayTo (xfind [(49, ([4, 5, 6], wM_wayTo_49 (k49)))]) 42 49 (List.zip [4, 5, 6] [.int x4, .int x5, .int x6]) [] h := rfl
theorem tM_wayTo_49_b {k49 : Int32 → Int32 → Int32 → XH → XR} (hk49 : XTo cX9_wayTo 7 RX9 1 1 20 49 [4, 5, 6] (wM_wayTo_49 k49)) : XTo cX9_wayTo 7 RX9 1 1 20 49 [4, 5, 6] (wM_wayTo_49 (qM_wayTo_49_b k49)) := by
  refine XTo.run (B := BM_wayTo) (cut := xfind [(49, ([4, 5, 6], wM_wayTo_49 (k49)))]) kM_wayTo (xcuts_ok (List.forall_mem_cons.mpr ⟨hk49, fun _ h => absurd h List.not_mem_nil⟩)) 42 (fun vs st h r hr => ?_)
  unfold wM_wayTo_49 at hr
  split at hr
  · exact (eM_wayTo_49_b k49 _ _ _ _).symm.trans hr
  · cases hr
theorem tM_wayTo_49 : ∀ n : Nat, XTo cX9_wayTo 7 RX9 1 1 20 49 [4, 5, 6] (wM_wayTo_49 (qM_wayTo_49 n)) := by
  intro n
  induction n with
  | zero =>
    refine XTo.none fun vs st h => ?_
    unfold wM_wayTo_49
    split <;> rfl
  | succ n ih => exact tM_wayTo_49_b  ih
set_option maxRecDepth 100000 in
theorem eM_wayTo_20 (x4 : Int32) (x5 : Int32) (h : XH) : qM_wayTo_20 x4 x5 h = xrun BM_wayTo (xfind [(49, ([4, 5, 6], wM_wayTo_49 (qM_wayTo_49 LF)))]) 42 20 (List.zip [4, 5] [.int x4, .int x5]) [] h := rfl
theorem tM_wayTo_20 : XTo cX9_wayTo 7 RX9 1 1 20 20 [4, 5] (wM_wayTo_20 (qM_wayTo_20)) := by
  refine XTo.run (B := BM_wayTo) (cut := xfind [(49, ([4, 5, 6], wM_wayTo_49 (qM_wayTo_49 LF)))]) kM_wayTo (xcuts_ok (List.forall_mem_cons.mpr ⟨tM_wayTo_49 LF, fun _ h => absurd h List.not_mem_nil⟩)) 42 (fun vs st h r hr => ?_)
  unfold wM_wayTo_20 at hr
  split at hr
  · exact (eM_wayTo_20 _ _ _).symm.trans hr
  · cases hr
set_option maxRecDepth 100000 in
theorem eM_wayTo (x0 : Int32) (x1 : Int32) (x2 : Int32) (x3 : Int32) (h : XH) : qM_wayTo x0 x1 x2 x3 h = xrun BM_wayTo (xfind [(20, ([4, 5], wM_wayTo_20 (qM_wayTo_20)))]) 42 0 (List.zip [0, 1, 2, 3] [.int x0, .int x1, .int x2, .int x3]) [] h := rfl
theorem tM_wayTo : XTo cX9_wayTo 7 RX9 1 1 20 0 [0, 1, 2, 3] (wM_wayTo (qM_wayTo)) := by
  refine XTo.run (B := BM_wayTo) (cut := xfind [(20, ([4, 5], wM_wayTo_20 (qM_wayTo_20)))]) kM_wayTo (xcuts_ok (List.forall_mem_cons.mpr ⟨tM_wayTo_20, fun _ h => absurd h List.not_mem_nil⟩)) 42 (fun vs st h r hr => ?_)
  unfold wM_wayTo at hr
  split at hr
  · exact (eM_wayTo _ _ _ _ _).symm.trans hr
  · cases hr
def FM_wayTo : List Value → XH → XR := fun vs h => match vs with
  | [.int x0, .int x1, .int x2, .int x3] => qM_wayTo x0 x1 x2 x3 h
  | _ => none
theorem SM_wayTo : XS yX9_wayTo cX9_wayTo 7 (some .int) (xrm 1 20) FM_wayTo := by
  refine XS.of (own := RX9) (by decide) rfl (rk := 1) rfl (tM_wayTo) (fun vs h r hr => ?_)
  unfold FM_wayTo at hr
  split at hr
  · exact ⟨rfl, Nat.le_of_ble_eq_true rfl, hr⟩
  · cases hr
-- LineDiagramModel.turnOf(II)I
def rM_turnOf : List (Nat × XRow) := [(0, (.iload_n 0, 1, 0, .null, [])),
  (1, (.iload_n 1, 2, 1, .null, [])),
  (2, (.isub, 3, 0, .null, [])),
  (3, (.invokestatic 107, 6, 107, .null, [])),
  (6, (.istore_n 2, 7, 2, .null, [])),
  (7, (.iload_n 2, 8, 2, .null, [])),
  (8, (.iconst 4, 9, 0, .int (4 : Int32), [])),
  (9, (.if_icmp .le 10, 12, 19, .null, [])),
  (12, (.bipush 8, 14, 0, .int (8 : Int32), [])),
  (14, (.iload_n 2, 15, 2, .null, [])),
  (15, (.isub, 16, 0, .null, [])),
  (16, (.goto 4, 19, 20, .null, [])),
  (19, (.iload_n 2, 20, 2, .null, [])),
  (20, (.ireturn, 21, 0, .null, []))]
def mM_turnOf : List (Nat × XM) := [(107, (1, 1, none, FM_size))]
abbrev BM_turnOf : XB := (rM_turnOf, XFT_M, mM_turnOf, 1, XST_M)
set_option maxRecDepth 100000 in
theorem kM_turnOf : XOK BM_turnOf cX9_turnOf 3 RX9 1 20 := xok_of (cps := []) (K := XKT_M) (by decide +kernel) XKT_M_ok (fun _ h => absurd h List.not_mem_nil) XFT_M_ok (List.forall_mem_cons.mpr ⟨⟨_, _, _, _, _, _, SM_size, Nat.le_of_ble_eq_true rfl, Nat.le_of_ble_eq_true rfl, cdM_size, lkM_107, imM_size, inM_size, pmM_size⟩, fun _ h => absurd h List.not_mem_nil⟩) XST_M_ok
def wM_turnOf (f : Int32 → Int32 → XH → XR) : List Value → List Value → XH → XR := fun vs st h => match vs, st with
  | [.int x0, .int x1], [] => f x0 x1 h
  | _, _ => none
set_option maxRecDepth 100000 in
theorem eM_turnOf (x0 : Int32) (x1 : Int32) (h : XH) : qM_turnOf x0 x1 h = xrun BM_turnOf (xfind []) 17 0 (List.zip [0, 1] [.int x0, .int x1]) [] h := rfl
theorem tM_turnOf : XTo cX9_turnOf 3 RX9 1 1 20 0 [0, 1] (wM_turnOf (qM_turnOf)) := by
  refine XTo.run (B := BM_turnOf) (cut := xfind []) kM_turnOf (xcuts_ok (fun _ h => absurd h List.not_mem_nil)) 17 (fun vs st h r hr => ?_)
  unfold wM_turnOf at hr
  split at hr
  · exact (eM_turnOf _ _ _).symm.trans hr
  · cases hr
def FM_turnOf : List Value → XH → XR := fun vs h => match vs with
  | [.int x0, .int x1] => qM_turnOf x0 x1 h
  | _ => none
theorem SM_turnOf : XS yX9_turnOf cX9_turnOf 3 (some .int) (xrm 1 20) FM_turnOf := by
  refine XS.of (own := RX9) (by decide) rfl (rk := 1) rfl (tM_turnOf) (fun vs h r hr => ?_)
  unfold FM_turnOf at hr
  split at hr
  · exact ⟨rfl, Nat.le_of_ble_eq_true rfl, hr⟩
  · cases hr
-- LineDiagramModel.canRun(II)Z
def rM_canRun : List (Nat × XRow) := [(0, (.aload_n 0, 1, 0, .null, [])),
  (1, (.getfield 283, 4, 283, .null, [])),
  (4, (.iconst 1, 5, 0, .int (1 : Int32), [])),
  (5, (.isub, 6, 0, .null, [])),
  (6, (.istore_n 3, 7, 3, .null, [])),
  (7, (.iload_n 3, 8, 3, .null, [])),
  (8, (.ifCond .ge 7, 11, 15, .null, [])),
  (11, (.iconst 0, 12, 0, .int (0 : Int32), [])),
  (12, (.goto 18, 15, 30, .null, [])),
  (15, (.aload_n 0, 16, 0, .null, [])),
  (16, (.iload_n 3, 17, 3, .null, [])),
  (17, (.invokevirtual 286, 20, 286, .null, [])),
  (20, (.aload_n 0, 21, 0, .null, [])),
  (21, (.iload_n 3, 22, 3, .null, [])),
  (22, (.invokevirtual 289, 25, 289, .null, [])),
  (25, (.iload_n 1, 26, 1, .null, [])),
  (26, (.iload_n 2, 27, 2, .null, [])),
  (27, (.invokestatic 126, 30, 126, .null, [])),
  (30, (.istore 4, 32, 4, .null, [])),
  (32, (.iload 4, 34, 4, .null, [])),
  (34, (.ifCond .lt 51, 37, 85, .null, [])),
  (37, (.iload_n 3, 38, 3, .null, [])),
  (38, (.iconst 1, 39, 0, .int (1 : Int32), [])),
  (39, (.if_icmp .lt 42, 42, 81, .null, [])),
  (42, (.aload_n 0, 43, 0, .null, [])),
  (43, (.iload_n 3, 44, 3, .null, [])),
  (44, (.iconst 1, 45, 0, .int (1 : Int32), [])),
  (45, (.isub, 46, 0, .null, [])),
  (46, (.invokevirtual 286, 49, 286, .null, [])),
  (49, (.aload_n 0, 50, 0, .null, [])),
  (50, (.iload_n 3, 51, 3, .null, [])),
  (51, (.iconst 1, 52, 0, .int (1 : Int32), [])),
  (52, (.isub, 53, 0, .null, [])),
  (53, (.invokevirtual 289, 56, 289, .null, [])),
  (56, (.aload_n 0, 57, 0, .null, [])),
  (57, (.iload_n 3, 58, 3, .null, [])),
  (58, (.invokevirtual 286, 61, 286, .null, [])),
  (61, (.aload_n 0, 62, 0, .null, [])),
  (62, (.iload_n 3, 63, 3, .null, [])),
  (63, (.invokevirtual 289, 66, 289, .null, [])),
  (66, (.invokestatic 126, 69, 126, .null, [])),
  (69, (.iload 4, 71, 4, .null, [])),
  (71, (.invokestatic 133, 74, 133, .null, [])),
  (74, (.aload_n 0, 75, 0, .null, [])),
  (75, (.getfield 292, 78, 292, .null, [])),
  (78, (.if_icmp .gt 7, 81, 85, .null, [])),
  (81, (.iconst 1, 82, 0, .int (1 : Int32), [])),
  (82, (.goto 4, 85, 86, .null, [])),
  (85, (.iconst 0, 86, 0, .int (0 : Int32), [])),
  (86, (.ireturn, 87, 0, .null, []))]
def mM_canRun : List (Nat × XM) := [(126, (4, 1, none, FM_wayTo)), (133, (2, 1, none, FM_turnOf)), (286, (2, 1, some 9, FM_newX)), (289, (2, 1, some 9, FM_newY))]
abbrev BM_canRun : XB := (rM_canRun, XFT_M, mM_canRun, 6, XST_M)
set_option maxRecDepth 100000 in
theorem kM_canRun : XOK BM_canRun cX9_canRun 5 RX9 2 46 := xok_of (cps := []) (K := XKT_M) (by decide +kernel) XKT_M_ok (fun _ h => absurd h List.not_mem_nil) XFT_M_ok (List.forall_mem_cons.mpr ⟨⟨_, _, _, _, _, _, SM_wayTo, Nat.le_of_ble_eq_true rfl, Nat.le_of_ble_eq_true rfl, cdM_wayTo, lkM_126, imM_wayTo, inM_wayTo, pmM_wayTo⟩, List.forall_mem_cons.mpr ⟨⟨_, _, _, _, _, _, SM_turnOf, Nat.le_of_ble_eq_true rfl, Nat.le_of_ble_eq_true rfl, cdM_turnOf, lkM_133, imM_turnOf, inM_turnOf, pmM_turnOf⟩, List.forall_mem_cons.mpr ⟨⟨_, _, _, _, _, _, _, SM_newX, rfl, rfl, Nat.le_of_ble_eq_true rfl, Nat.le_of_ble_eq_true rfl, cdM_newX, lkM_286, imM_newX, slM_newX, inM_newX, pmM_newX⟩, List.forall_mem_cons.mpr ⟨⟨_, _, _, _, _, _, _, SM_newY, rfl, rfl, Nat.le_of_ble_eq_true rfl, Nat.le_of_ble_eq_true rfl, cdM_newY, lkM_289, imM_newY, slM_newY, inM_newY, pmM_newY⟩, fun _ h => absurd h List.not_mem_nil⟩⟩⟩⟩) XST_M_ok
def wM_canRun_30 (f : Nat → Int32 → Int32 → XH → XR) : List Value → List Value → XH → XR := fun vs st h => match vs, st with
  | [.ref a0, .int x3], [.int s0] => f a0 x3 s0 h
  | _, _ => none
def wM_canRun (f : Nat → Int32 → Int32 → XH → XR) : List Value → List Value → XH → XR := fun vs st h => match vs, st with
  | [.ref a0, .int x1, .int x2], [] => f a0 x1 x2 h
  | _, _ => none
set_option maxRecDepth 100000 in
theorem eM_canRun_30 (a0 : Nat) (x3 : Int32) (s0 : Int32) (h : XH) : qM_canRun_30 a0 x3 s0 h = xrun BM_canRun (xfind []) 53 30 (List.zip [0, 3] [.ref a0, .int x3]) [.int s0] h := rfl
theorem tM_canRun_30 : XTo cX9_canRun 5 RX9 6 2 46 30 [0, 3] (wM_canRun_30 (qM_canRun_30)) := by
  refine XTo.run (B := BM_canRun) (cut := xfind []) kM_canRun (xcuts_ok (fun _ h => absurd h List.not_mem_nil)) 53 (fun vs st h r hr => ?_)
  unfold wM_canRun_30 at hr
  split at hr
  · exact (eM_canRun_30 _ _ _ _).symm.trans hr
  · cases hr
set_option maxRecDepth 100000 in
theorem eM_canRun (a0 : Nat) (x1 : Int32) (x2 : Int32) (h : XH) : qM_canRun a0 x1 x2 h = xrun BM_canRun (xfind [(30, ([0, 3], wM_canRun_30 (qM_canRun_30)))]) 53 0 (List.zip [0, 1, 2] [.ref a0, .int x1, .int x2]) [] h := rfl
theorem tM_canRun : XTo cX9_canRun 5 RX9 6 2 46 0 [0, 1, 2] (wM_canRun (qM_canRun)) := by
  refine XTo.run (B := BM_canRun) (cut := xfind [(30, ([0, 3], wM_canRun_30 (qM_canRun_30)))]) kM_canRun (xcuts_ok (List.forall_mem_cons.mpr ⟨tM_canRun_30, fun _ h => absurd h List.not_mem_nil⟩)) 53 (fun vs st h r hr => ?_)
  unfold wM_canRun at hr
  split at hr
  · exact (eM_canRun _ _ _ _).symm.trans hr
  · cases hr
def FM_canRun : List Value → XH → XR := fun vs h => match vs with
  | [.ref a0, .int x1, .int x2] => qM_canRun a0 x1 x2 h
  | _ => none
theorem SM_canRun : XS yX9_canRun cX9_canRun 5 (some .boolean) (xrm 2 46) FM_canRun := by
  refine XS.of (own := RX9) (by decide) rfl (rk := 6) rfl (tM_canRun) (fun vs h r hr => ?_)
  unfold FM_canRun at hr
  split at hr
  · exact ⟨rfl, Nat.le_of_ble_eq_true rfl, hr⟩
  · cases hr
-- LineDiagramModel.readPoint()V
def rM_readPoint : List (Nat × XRow) := [(0, (.aload_n 0, 1, 0, .null, [])),
  (1, (.aload_n 0, 2, 0, .null, [])),
  (2, (.ldc2_w 224, 5, 224, .long (52 : Int64), [])),
  (5, (.invokevirtual 271, 8, 271, .null, [])),
  (8, (.ifCond .eq 16, 11, 24, .null, [])),
  (11, (.aload_n 0, 12, 0, .null, [])),
  (12, (.getfield 283, 15, 283, .null, [])),
  (15, (.bipush 10, 17, 0, .int (10 : Int32), [])),
  (17, (.if_icmp .ge 7, 20, 24, .null, [])),
  (20, (.iconst 1, 21, 0, .int (1 : Int32), [])),
  (21, (.goto 4, 24, 25, .null, [])),
  (24, (.iconst 0, 25, 0, .int (0 : Int32), [])),
  (25, (.invokevirtual 267, 28, 267, .null, [])),
  (28, (.aload_n 0, 29, 0, .null, [])),
  (29, (.iconst 0, 30, 0, .int (0 : Int32), [])),
  (30, (.aload_n 0, 31, 0, .null, [])),
  (31, (.getfield 295, 34, 295, .null, [])),
  (34, (.iconst 1, 35, 0, .int (1 : Int32), [])),
  (35, (.isub, 36, 0, .null, [])),
  (36, (.invokevirtual 274, 39, 274, .null, [])),
  (39, (.istore_n 1, 40, 1, .null, [])),
  (40, (.aload_n 0, 41, 0, .null, [])),
  (41, (.getfield 248, 44, 248, .null, [])),
  (44, (.istore_n 2, 45, 2, .null, [])),
  (45, (.aload_n 0, 46, 0, .null, [])),
  (46, (.aload_n 0, 47, 0, .null, [])),
  (47, (.iconst 0, 48, 0, .int (0 : Int32), [])),
  (48, (.aload_n 0, 49, 0, .null, [])),
  (49, (.getfield 298, 52, 298, .null, [])),
  (52, (.iconst 1, 53, 0, .int (1 : Int32), [])),
  (53, (.isub, 54, 0, .null, [])),
  (54, (.invokevirtual 264, 57, 264, .null, [])),
  (57, (.ifCond .eq 23, 60, 80, .null, [])),
  (60, (.aload_n 0, 61, 0, .null, [])),
  (61, (.getfield 257, 64, 257, .null, [])),
  (64, (.ifCond .eq 12, 67, 76, .null, [])),
  (67, (.aload_n 0, 68, 0, .null, [])),
  (68, (.iload_n 1, 69, 1, .null, [])),
  (69, (.iload_n 2, 70, 2, .null, [])),
  (70, (.invokevirtual 301, 73, 301, .null, [])),
  (73, (.ifCond .eq 7, 76, 80, .null, [])),
  (76, (.iconst 1, 77, 0, .int (1 : Int32), [])),
  (77, (.goto 4, 80, 81, .null, [])),
  (80, (.iconst 0, 81, 0, .int (0 : Int32), [])),
  (81, (.invokevirtual 267, 84, 267, .null, [])),
  (84, (.aload_n 0, 85, 0, .null, [])),
  (85, (.getfield 257, 88, 257, .null, [])),
  (88, (.ifCond .ne 4, 91, 92, .null, [])),
  (91, (.return_, 92, 0, .null, [])),
  (92, (.aload_n 0, 93, 0, .null, [])),
  (93, (.getfield 283, 96, 283, .null, [])),
  (96, (.ifCond .le 57, 99, 153, .null, [])),
  (99, (.iload_n 1, 100, 1, .null, [])),
  (100, (.aload_n 0, 101, 0, .null, [])),
  (101, (.aload_n 0, 102, 0, .null, [])),
  (102, (.getfield 283, 105, 283, .null, [])),
  (105, (.iconst 1, 106, 0, .int (1 : Int32), [])),
  (106, (.isub, 107, 0, .null, [])),
  (107, (.invokevirtual 286, 110, 286, .null, [])),
  (110, (.isub, 111, 0, .null, [])),
  (111, (.invokestatic 107, 114, 107, .null, [])),
  (114, (.istore_n 3, 115, 3, .null, [])),
  (115, (.iload_n 2, 116, 2, .null, [])),
  (116, (.aload_n 0, 117, 0, .null, [])),
  (117, (.aload_n 0, 118, 0, .null, [])),
  (118, (.getfield 283, 121, 283, .null, [])),
  (121, (.iconst 1, 122, 0, .int (1 : Int32), [])),
  (122, (.isub, 123, 0, .null, [])),
  (123, (.invokevirtual 289, 126, 289, .null, [])),
  (126, (.isub, 127, 0, .null, [])),
  (127, (.invokestatic 107, 130, 107, .null, [])),
  (130, (.istore 4, 132, 4, .null, [])),
  (132, (.aload_n 0, 133, 0, .null, [])),
  (133, (.dup, 134, 0, .null, [])),
  (134, (.getfield 304, 137, 304, .null, [])),
  (137, (.iload_n 3, 138, 3, .null, [])),
  (138, (.iload 4, 140, 4, .null, [])),
  (140, (.if_icmp .le 7, 143, 147, .null, [])),
  (143, (.iload_n 3, 144, 3, .null, [])),
  (144, (.goto 5, 147, 149, .null, [])),
  (147, (.iload 4, 149, 4, .null, [])),
  (149, (.iadd, 150, 0, .null, [])),
  (150, (.putfield 304, 153, 304, .null, [])),
  (153, (.aload_n 0, 154, 0, .null, [])),
  (154, (.getfield 64, 157, 64, .null, [])),
  (157, (.aload_n 0, 158, 0, .null, [])),
  (158, (.iconst 3, 159, 0, .int (3 : Int32), [])),
  (159, (.iconst 2, 160, 0, .int (2 : Int32), [])),
  (160, (.aload_n 0, 161, 0, .null, [])),
  (161, (.getfield 283, 164, 283, .null, [])),
  (164, (.imul, 165, 0, .null, [])),
  (165, (.iadd, 166, 0, .null, [])),
  (166, (.invokevirtual 280, 169, 280, .null, [])),
  (169, (.iload_n 1, 170, 1, .null, [])),
  (170, (.iastore, 171, 0, .null, [])),
  (171, (.aload_n 0, 172, 0, .null, [])),
  (172, (.getfield 64, 175, 64, .null, [])),
  (175, (.aload_n 0, 176, 0, .null, [])),
  (176, (.iconst 3, 177, 0, .int (3 : Int32), [])),
  (177, (.iconst 2, 178, 0, .int (2 : Int32), [])),
  (178, (.aload_n 0, 179, 0, .null, [])),
  (179, (.getfield 283, 182, 283, .null, [])),
  (182, (.imul, 183, 0, .null, [])),
  (183, (.iadd, 184, 0, .null, [])),
  (184, (.iconst 1, 185, 0, .int (1 : Int32), [])),
  (185, (.iadd, 186, 0, .null, [])),
  (186, (.invokevirtual 280, 189, 280, .null, [])),
  (189, (.iload_n 2, 190, 2, .null, [])),
  (190, (.iastore, 191, 0, .null, [])),
  (191, (.aload_n 0, 192, 0, .null, [])),
  (192, (.dup, 193, 0, .null, [])),
  (193, (.getfield 283, 196, 283, .null, [])),
  (196, (.iconst 1, 197, 0, .int (1 : Int32), [])),
  (197, (.iadd, 198, 0, .null, [])),
  (198, (.putfield 283, 201, 283, .null, [])),
  (201, (.return_, 202, 0, .null, []))]
def mM_readPoint : List (Nat × XM) := [(107, (1, 1, none, FM_size)), (264, (3, 1, some 9, FM_isInt)), (267, (2, 0, some 9, FM_takes)), (271, (2, 1, some 9, FM_isHere)), (274, (3, 1, some 9, FM_numberIn)), (280, (2, 1, some 9, FM_newAt)), (286, (2, 1, some 9, FM_newX)), (289, (2, 1, some 9, FM_newY)), (301, (3, 1, some 9, FM_canRun))]
abbrev BM_readPoint : XB := (rM_readPoint, XFT_M, mM_readPoint, 0, XST_M)
set_option maxRecDepth 100000 in
theorem kM_readPoint : XOK BM_readPoint cX9_readPoint 5 RX9 5 108 := xok_of (cps := []) (K := XKT_M) (by decide +kernel) XKT_M_ok (fun _ h => absurd h List.not_mem_nil) XFT_M_ok (List.forall_mem_cons.mpr ⟨⟨_, _, _, _, _, _, SM_size, Nat.le_of_ble_eq_true rfl, Nat.le_of_ble_eq_true rfl, cdM_size, lkM_107, imM_size, inM_size, pmM_size⟩, List.forall_mem_cons.mpr ⟨⟨_, _, _, _, _, _, _, SM_isInt, rfl, rfl, Nat.le_of_ble_eq_true rfl, Nat.le_of_ble_eq_true rfl, cdM_isInt, lkM_264, imM_isInt, slM_isInt, inM_isInt, pmM_isInt⟩, List.forall_mem_cons.mpr ⟨⟨_, _, _, _, _, _, _, SM_takes, rfl, rfl, Nat.le_of_ble_eq_true rfl, Nat.le_of_ble_eq_true rfl, cdM_takes, lkM_267, imM_takes, slM_takes, inM_takes, pmM_takes⟩, List.forall_mem_cons.mpr ⟨⟨_, _, _, _, _, _, _, SM_isHere, rfl, rfl, Nat.le_of_ble_eq_true rfl, Nat.le_of_ble_eq_true rfl, cdM_isHere, lkM_271, imM_isHere, slM_isHere, inM_isHere, pmM_isHere⟩, List.forall_mem_cons.mpr ⟨⟨_, _, _, _, _, _, _, SM_numberIn, rfl, rfl, Nat.le_of_ble_eq_true rfl, Nat.le_of_ble_eq_true rfl, cdM_numberIn, lkM_274, imM_numberIn, slM_numberIn, inM_numberIn, pmM_numberIn⟩, List.forall_mem_cons.mpr ⟨⟨_, _, _, _, _, _, _, SM_newAt, rfl, rfl, Nat.le_of_ble_eq_true rfl, Nat.le_of_ble_eq_true rfl, cdM_newAt, lkM_280, imM_newAt, slM_newAt, inM_newAt, pmM_newAt⟩, List.forall_mem_cons.mpr ⟨⟨_, _, _, _, _, _, _, SM_newX, rfl, rfl, Nat.le_of_ble_eq_true rfl, Nat.le_of_ble_eq_true rfl, cdM_newX, lkM_286, imM_newX, slM_newX, inM_newX, pmM_newX⟩, List.forall_mem_cons.mpr ⟨⟨_, _, _, _, _, _, _, SM_newY, rfl, rfl, Nat.le_of_ble_eq_true rfl, Nat.le_of_ble_eq_true rfl, cdM_newY, lkM_289, imM_newY, slM_newY, inM_newY, pmM_newY⟩, List.forall_mem_cons.mpr ⟨⟨_, _, _, _, _, _, _, SM_canRun, rfl, rfl, Nat.le_of_ble_eq_true rfl, Nat.le_of_ble_eq_true rfl, cdM_canRun, lkM_301, imM_canRun, slM_canRun, inM_canRun, pmM_canRun⟩, fun _ h => absurd h List.not_mem_nil⟩⟩⟩⟩⟩⟩⟩⟩⟩) XST_M_ok
def wM_readPoint_153 (f : Nat → Int32 → Int32 → XH → XR) : List Value → List Value → XH → XR := fun vs st h => match vs, st with
  | [.ref a0, .int x1, .int x2], [] => f a0 x1 x2 h
  | _, _ => none
def wM_readPoint_149 (f : Nat → Int32 → Int32 → Int32 → Int32 → Nat → XH → XR) : List Value → List Value → XH → XR := fun vs st h => match vs, st with
  | [.ref a0, .int x1, .int x2], [.int s0, .int s1, .ref s2] => f a0 x1 x2 s0 s1 s2 h
  | _, _ => none
def wM_readPoint_81 (f : Nat → Int32 → Int32 → Int32 → Nat → XH → XR) : List Value → List Value → XH → XR := fun vs st h => match vs, st with
  | [.ref a0, .int x1, .int x2], [.int s0, .ref s1] => f a0 x1 x2 s0 s1 h
  | _, _ => none
def wM_readPoint_76 (f : Nat → Int32 → Int32 → Nat → XH → XR) : List Value → List Value → XH → XR := fun vs st h => match vs, st with
  | [.ref a0, .int x1, .int x2], [.ref s0] => f a0 x1 x2 s0 h
  | _, _ => none
def wM_readPoint_80 (f : Nat → Int32 → Int32 → Nat → XH → XR) : List Value → List Value → XH → XR := fun vs st h => match vs, st with
  | [.ref a0, .int x1, .int x2], [.ref s0] => f a0 x1 x2 s0 h
  | _, _ => none
def wM_readPoint_25 (f : Nat → Int32 → Nat → XH → XR) : List Value → List Value → XH → XR := fun vs st h => match vs, st with
  | [.ref a0], [.int s0, .ref s1] => f a0 s0 s1 h
  | _, _ => none
def wM_readPoint_24 (f : Nat → Nat → XH → XR) : List Value → List Value → XH → XR := fun vs st h => match vs, st with
  | [.ref a0], [.ref s0] => f a0 s0 h
  | _, _ => none
def wM_readPoint (f : Nat → XH → XR) : List Value → List Value → XH → XR := fun vs st h => match vs, st with
  | [.ref a0], [] => f a0 h
  | _, _ => none
set_option maxRecDepth 100000 in
theorem eM_readPoint_153 (a0 : Nat) (x1 : Int32) (x2 : Int32) (h : XH) : qM_readPoint_153 a0 x1 x2 h = xrun BM_readPoint (xfind []) 119 153 (List.zip [0, 1, 2] [.ref a0, .int x1, .int x2]) [] h := rfl
theorem tM_readPoint_153 : XTo cX9_readPoint 5 RX9 0 5 108 153 [0, 1, 2] (wM_readPoint_153 (qM_readPoint_153)) := by
  refine XTo.run (B := BM_readPoint) (cut := xfind []) kM_readPoint (xcuts_ok (fun _ h => absurd h List.not_mem_nil)) 119 (fun vs st h r hr => ?_)
  unfold wM_readPoint_153 at hr
  split at hr
  · exact (eM_readPoint_153 _ _ _ _).symm.trans hr
  · cases hr
set_option maxRecDepth 100000 in
theorem eM_readPoint_149 (a0 : Nat) (x1 : Int32) (x2 : Int32) (s0 : Int32) (s1 : Int32) (s2 : Nat) (h : XH) : qM_readPoint_149 a0 x1 x2 s0 s1 s2 h = xrun BM_readPoint (xfind [(153, ([0, 1, 2], wM_readPoint_153 (qM_readPoint_153)))]) 119 149 (List.zip [0, 1, 2] [.ref a0, .int x1, .int x2]) [.int s0, .int s1, .ref s2] h := rfl
theorem tM_readPoint_149 : XTo cX9_readPoint 5 RX9 0 5 108 149 [0, 1, 2] (wM_readPoint_149 (qM_readPoint_149)) := by
  refine XTo.run (B := BM_readPoint) (cut := xfind [(153, ([0, 1, 2], wM_readPoint_153 (qM_readPoint_153)))]) kM_readPoint (xcuts_ok (List.forall_mem_cons.mpr ⟨tM_readPoint_153, fun _ h => absurd h List.not_mem_nil⟩)) 119 (fun vs st h r hr => ?_)
  unfold wM_readPoint_149 at hr
  split at hr
  · exact (eM_readPoint_149 _ _ _ _ _ _ _).symm.trans hr
  · cases hr
set_option maxRecDepth 100000 in
theorem eM_readPoint_81 (a0 : Nat) (x1 : Int32) (x2 : Int32) (s0 : Int32) (s1 : Nat) (h : XH) : qM_readPoint_81 a0 x1 x2 s0 s1 h = xrun BM_readPoint (xfind [(149, ([0, 1, 2], wM_readPoint_149 (qM_readPoint_149))), (153, ([0, 1, 2], wM_readPoint_153 (qM_readPoint_153)))]) 119 81 (List.zip [0, 1, 2] [.ref a0, .int x1, .int x2]) [.int s0, .ref s1] h := rfl
theorem tM_readPoint_81 : XTo cX9_readPoint 5 RX9 0 5 108 81 [0, 1, 2] (wM_readPoint_81 (qM_readPoint_81)) := by
  refine XTo.run (B := BM_readPoint) (cut := xfind [(149, ([0, 1, 2], wM_readPoint_149 (qM_readPoint_149))), (153, ([0, 1, 2], wM_readPoint_153 (qM_readPoint_153)))]) kM_readPoint (xcuts_ok (List.forall_mem_cons.mpr ⟨tM_readPoint_149, List.forall_mem_cons.mpr ⟨tM_readPoint_153, fun _ h => absurd h List.not_mem_nil⟩⟩)) 119 (fun vs st h r hr => ?_)
  unfold wM_readPoint_81 at hr
  split at hr
  · exact (eM_readPoint_81 _ _ _ _ _ _).symm.trans hr
  · cases hr
set_option maxRecDepth 100000 in
theorem eM_readPoint_76 (a0 : Nat) (x1 : Int32) (x2 : Int32) (s0 : Nat) (h : XH) : qM_readPoint_76 a0 x1 x2 s0 h = xrun BM_readPoint (xfind [(81, ([0, 1, 2], wM_readPoint_81 (qM_readPoint_81)))]) 119 76 (List.zip [0, 1, 2] [.ref a0, .int x1, .int x2]) [.ref s0] h := rfl
theorem tM_readPoint_76 : XTo cX9_readPoint 5 RX9 0 5 108 76 [0, 1, 2] (wM_readPoint_76 (qM_readPoint_76)) := by
  refine XTo.run (B := BM_readPoint) (cut := xfind [(81, ([0, 1, 2], wM_readPoint_81 (qM_readPoint_81)))]) kM_readPoint (xcuts_ok (List.forall_mem_cons.mpr ⟨tM_readPoint_81, fun _ h => absurd h List.not_mem_nil⟩)) 119 (fun vs st h r hr => ?_)
  unfold wM_readPoint_76 at hr
  split at hr
  · exact (eM_readPoint_76 _ _ _ _ _).symm.trans hr
  · cases hr
set_option maxRecDepth 100000 in
theorem eM_readPoint_80 (a0 : Nat) (x1 : Int32) (x2 : Int32) (s0 : Nat) (h : XH) : qM_readPoint_80 a0 x1 x2 s0 h = xrun BM_readPoint (xfind [(81, ([0, 1, 2], wM_readPoint_81 (qM_readPoint_81)))]) 119 80 (List.zip [0, 1, 2] [.ref a0, .int x1, .int x2]) [.ref s0] h := rfl
theorem tM_readPoint_80 : XTo cX9_readPoint 5 RX9 0 5 108 80 [0, 1, 2] (wM_readPoint_80 (qM_readPoint_80)) := by
  refine XTo.run (B := BM_readPoint) (cut := xfind [(81, ([0, 1, 2], wM_readPoint_81 (qM_readPoint_81)))]) kM_readPoint (xcuts_ok (List.forall_mem_cons.mpr ⟨tM_readPoint_81, fun _ h => absurd h List.not_mem_nil⟩)) 119 (fun vs st h r hr => ?_)
  unfold wM_readPoint_80 at hr
  split at hr
  · exact (eM_readPoint_80 _ _ _ _ _).symm.trans hr
  · cases hr
set_option maxRecDepth 100000 in
theorem eM_readPoint_25 (a0 : Nat) (s0 : Int32) (s1 : Nat) (h : XH) : qM_readPoint_25 a0 s0 s1 h = xrun BM_readPoint (xfind [(76, ([0, 1, 2], wM_readPoint_76 (qM_readPoint_76))), (80, ([0, 1, 2], wM_readPoint_80 (qM_readPoint_80)))]) 119 25 (List.zip [0] [.ref a0]) [.int s0, .ref s1] h := rfl
theorem tM_readPoint_25 : XTo cX9_readPoint 5 RX9 0 5 108 25 [0] (wM_readPoint_25 (qM_readPoint_25)) := by
  refine XTo.run (B := BM_readPoint) (cut := xfind [(76, ([0, 1, 2], wM_readPoint_76 (qM_readPoint_76))), (80, ([0, 1, 2], wM_readPoint_80 (qM_readPoint_80)))]) kM_readPoint (xcuts_ok (List.forall_mem_cons.mpr ⟨tM_readPoint_76, List.forall_mem_cons.mpr ⟨tM_readPoint_80, fun _ h => absurd h List.not_mem_nil⟩⟩)) 119 (fun vs st h r hr => ?_)
  unfold wM_readPoint_25 at hr
  split at hr
  · exact (eM_readPoint_25 _ _ _ _).symm.trans hr
  · cases hr
set_option maxRecDepth 100000 in
theorem eM_readPoint_24 (a0 : Nat) (s0 : Nat) (h : XH) : qM_readPoint_24 a0 s0 h = xrun BM_readPoint (xfind [(25, ([0], wM_readPoint_25 (qM_readPoint_25)))]) 119 24 (List.zip [0] [.ref a0]) [.ref s0] h := rfl
theorem tM_readPoint_24 : XTo cX9_readPoint 5 RX9 0 5 108 24 [0] (wM_readPoint_24 (qM_readPoint_24)) := by
  refine XTo.run (B := BM_readPoint) (cut := xfind [(25, ([0], wM_readPoint_25 (qM_readPoint_25)))]) kM_readPoint (xcuts_ok (List.forall_mem_cons.mpr ⟨tM_readPoint_25, fun _ h => absurd h List.not_mem_nil⟩)) 119 (fun vs st h r hr => ?_)
  unfold wM_readPoint_24 at hr
  split at hr
  · exact (eM_readPoint_24 _ _ _).symm.trans hr
  · cases hr
set_option maxRecDepth 100000 in
theorem eM_readPoint (a0 : Nat) (h : XH) : qM_readPoint a0 h = xrun BM_readPoint (xfind [(24, ([0], wM_readPoint_24 (qM_readPoint_24))), (25, ([0], wM_readPoint_25 (qM_readPoint_25)))]) 119 0 (List.zip [0] [.ref a0]) [] h := rfl
theorem tM_readPoint : XTo cX9_readPoint 5 RX9 0 5 108 0 [0] (wM_readPoint (qM_readPoint)) := by
  refine XTo.run (B := BM_readPoint) (cut := xfind [(24, ([0], wM_readPoint_24 (qM_readPoint_24))), (25, ([0], wM_readPoint_25 (qM_readPoint_25)))]) kM_readPoint (xcuts_ok (List.forall_mem_cons.mpr ⟨tM_readPoint_24, List.forall_mem_cons.mpr ⟨tM_readPoint_25, fun _ h => absurd h List.not_mem_nil⟩⟩)) 119 (fun vs st h r hr => ?_)
  unfold wM_readPoint at hr
  split at hr
  · exact (eM_readPoint _ _).symm.trans hr
  · cases hr
def FM_readPoint : List Value → XH → XR := fun vs h => match vs with
  | [.ref a0] => qM_readPoint a0 h
  | _ => none
theorem SM_readPoint : XS yX9_readPoint cX9_readPoint 5 none (xrm 5 108) FM_readPoint := by
  refine XS.of (own := RX9) (by decide) rfl (rk := 0) rfl (tM_readPoint) (fun vs h r hr => ?_)
  unfold FM_readPoint at hr
  split at hr
  · exact ⟨rfl, Nat.le_of_ble_eq_true rfl, hr⟩
  · cases hr
-- LineDiagramModel.readLine()V
def rM_readLine : List (Nat × XRow) := [(0, (.aload_n 0, 1, 0, .null, [])),
  (1, (.aload_n 0, 2, 0, .null, [])),
  (2, (.ldc2_w 218, 5, 218, .long (402885 : Int64), [])),
  (5, (.invokevirtual 271, 8, 271, .null, [])),
  (8, (.ifCond .eq 16, 11, 24, .null, [])),
  (11, (.aload_n 0, 12, 0, .null, [])),
  (12, (.getfield 277, 15, 277, .null, [])),
  (15, (.bipush 8, 17, 0, .int (8 : Int32), [])),
  (17, (.if_icmp .ge 7, 20, 24, .null, [])),
  (20, (.iconst 1, 21, 0, .int (1 : Int32), [])),
  (21, (.goto 4, 24, 25, .null, [])),
  (24, (.iconst 0, 25, 0, .int (0 : Int32), [])),
  (25, (.invokevirtual 267, 28, 267, .null, [])),
  (28, (.aload_n 0, 29, 0, .null, [])),
  (29, (.getfield 230, 32, 230, .null, [])),
  (32, (.istore_n 1, 33, 1, .null, [])),
  (33, (.aload_n 0, 34, 0, .null, [])),
  (34, (.aload_n 0, 35, 0, .null, [])),
  (35, (.invokevirtual 307, 38, 307, .null, [])),
  (38, (.invokevirtual 267, 41, 267, .null, [])),
  (41, (.aload_n 0, 42, 0, .null, [])),
  (42, (.ldc2_w 220, 45, 220, .long (632645 : Int64), [])),
  (45, (.iconst 1, 46, 0, .int (1 : Int32), [])),
  (46, (.bipush 10, 48, 0, .int (10 : Int32), [])),
  (48, (.invokevirtual 311, 51, 311, .null, [])),
  (51, (.istore_n 2, 52, 2, .null, [])),
  (52, (.aload_n 0, 53, 0, .null, [])),
  (53, (.ldc2_w 222, 56, 222, .long (20594195 : Int64), [])),
  (56, (.iconst 2, 57, 0, .int (2 : Int32), [])),
  (57, (.bipush 20, 59, 0, .int (20 : Int32), [])),
  (59, (.invokevirtual 311, 62, 311, .null, [])),
  (62, (.istore_n 3, 63, 3, .null, [])),
  (63, (.aload_n 0, 64, 0, .null, [])),
  (64, (.iconst 0, 65, 0, .int (0 : Int32), [])),
  (65, (.putfield 283, 68, 283, .null, [])),
  (68, (.aload_n 0, 69, 0, .null, [])),
  (69, (.iconst 0, 70, 0, .int (0 : Int32), [])),
  (70, (.putfield 304, 73, 304, .null, [])),
  (73, (.aload_n 0, 74, 0, .null, [])),
  (74, (.getfield 257, 77, 257, .null, [])),
  (77, (.ifCond .ne 4, 80, 81, .null, [])),
  (80, (.return_, 81, 0, .null, [])),
  (81, (.aload_n 0, 82, 0, .null, [])),
  (82, (.invokevirtual 315, 85, 315, .null, [])),
  (85, (.aload_n 0, 86, 0, .null, [])),
  (86, (.invokevirtual 315, 89, 315, .null, [])),
  (89, (.aload_n 0, 90, 0, .null, [])),
  (90, (.ldc2_w 224, 93, 224, .long (52 : Int64), [])),
  (93, (.invokevirtual 271, 96, 271, .null, [])),
  (96, (.ifCond .eq 10, 99, 106, .null, [])),
  (99, (.aload_n 0, 100, 0, .null, [])),
  (100, (.invokevirtual 315, 103, 315, .null, [])),
  (103, (.goto (-14), 106, 89, .null, [])),
  (106, (.aload_n 0, 107, 0, .null, [])),
  (107, (.aload_n 0, 108, 0, .null, [])),
  (108, (.getfield 245, 111, 245, .null, [])),
  (111, (.iconst 4, 112, 0, .int (4 : Int32), [])),
  (112, (.if_icmp .ne 17, 115, 129, .null, [])),
  (115, (.aload_n 0, 116, 0, .null, [])),
  (116, (.getfield 304, 119, 304, .null, [])),
  (119, (.iload_n 3, 120, 3, .null, [])),
  (120, (.iconst 1, 121, 0, .int (1 : Int32), [])),
  (121, (.isub, 122, 0, .null, [])),
  (122, (.if_icmp .lt 7, 125, 129, .null, [])),
  (125, (.iconst 1, 126, 0, .int (1 : Int32), [])),
  (126, (.goto 4, 129, 130, .null, [])),
  (129, (.iconst 0, 130, 0, .int (0 : Int32), [])),
  (130, (.invokevirtual 267, 133, 267, .null, [])),
  (133, (.aload_n 0, 134, 0, .null, [])),
  (134, (.getfield 257, 137, 257, .null, [])),
  (137, (.ifCond .ne 4, 140, 141, .null, [])),
  (140, (.return_, 141, 0, .null, [])),
  (141, (.aload_n 0, 142, 0, .null, [])),
  (142, (.getfield 61, 145, 61, .null, [])),
  (145, (.aload_n 0, 146, 0, .null, [])),
  (146, (.getfield 277, 149, 277, .null, [])),
  (149, (.iload_n 1, 150, 1, .null, [])),
  (150, (.iastore, 151, 0, .null, [])),
  (151, (.aload_n 0, 152, 0, .null, [])),
  (152, (.getfield 64, 155, 64, .null, [])),
  (155, (.aload_n 0, 156, 0, .null, [])),
  (156, (.iconst 0, 157, 0, .int (0 : Int32), [])),
  (157, (.invokevirtual 280, 160, 280, .null, [])),
  (160, (.iload_n 2, 161, 2, .null, [])),
  (161, (.iastore, 162, 0, .null, [])),
  (162, (.aload_n 0, 163, 0, .null, [])),
  (163, (.getfield 64, 166, 64, .null, [])),
  (166, (.aload_n 0, 167, 0, .null, [])),
  (167, (.iconst 1, 168, 0, .int (1 : Int32), [])),
  (168, (.invokevirtual 280, 171, 280, .null, [])),
  (171, (.iload_n 3, 172, 3, .null, [])),
  (172, (.iastore, 173, 0, .null, [])),
  (173, (.aload_n 0, 174, 0, .null, [])),
  (174, (.getfield 64, 177, 64, .null, [])),
  (177, (.aload_n 0, 178, 0, .null, [])),
  (178, (.iconst 2, 179, 0, .int (2 : Int32), [])),
  (179, (.invokevirtual 280, 182, 280, .null, [])),
  (182, (.aload_n 0, 183, 0, .null, [])),
  (183, (.getfield 283, 186, 283, .null, [])),
  (186, (.iastore, 187, 0, .null, [])),
  (187, (.aload_n 0, 188, 0, .null, [])),
  (188, (.dup, 189, 0, .null, [])),
  (189, (.getfield 277, 192, 277, .null, [])),
  (192, (.iconst 1, 193, 0, .int (1 : Int32), [])),
  (193, (.iadd, 194, 0, .null, [])),
  (194, (.putfield 277, 197, 277, .null, [])),
  (197, (.return_, 198, 0, .null, []))]
def mM_readLine : List (Nat × XM) := [(267, (2, 0, some 9, FM_takes)), (271, (2, 1, some 9, FM_isHere)), (280, (2, 1, some 9, FM_newAt)), (307, (1, 1, some 9, FM_isNewName)), (311, (4, 1, some 9, FM_numberOf)), (315, (1, 0, some 9, FM_readPoint))]
abbrev BM_readLine : XB := (rM_readLine, XFT_M, mM_readLine, 0, XST_M)
set_option maxRecDepth 100000 in
theorem kM_readLine : XOK BM_readLine cX9_readLine 4 RX9 6 132 := xok_of (cps := []) (K := XKT_M) (by decide +kernel) XKT_M_ok (fun _ h => absurd h List.not_mem_nil) XFT_M_ok (List.forall_mem_cons.mpr ⟨⟨_, _, _, _, _, _, _, SM_takes, rfl, rfl, Nat.le_of_ble_eq_true rfl, Nat.le_of_ble_eq_true rfl, cdM_takes, lkM_267, imM_takes, slM_takes, inM_takes, pmM_takes⟩, List.forall_mem_cons.mpr ⟨⟨_, _, _, _, _, _, _, SM_isHere, rfl, rfl, Nat.le_of_ble_eq_true rfl, Nat.le_of_ble_eq_true rfl, cdM_isHere, lkM_271, imM_isHere, slM_isHere, inM_isHere, pmM_isHere⟩, List.forall_mem_cons.mpr ⟨⟨_, _, _, _, _, _, _, SM_newAt, rfl, rfl, Nat.le_of_ble_eq_true rfl, Nat.le_of_ble_eq_true rfl, cdM_newAt, lkM_280, imM_newAt, slM_newAt, inM_newAt, pmM_newAt⟩, List.forall_mem_cons.mpr ⟨⟨_, _, _, _, _, _, _, SM_isNewName, rfl, rfl, Nat.le_of_ble_eq_true rfl, Nat.le_of_ble_eq_true rfl, cdM_isNewName, lkM_307, imM_isNewName, slM_isNewName, inM_isNewName, pmM_isNewName⟩, List.forall_mem_cons.mpr ⟨⟨_, _, _, _, _, _, _, SM_numberOf, rfl, rfl, Nat.le_of_ble_eq_true rfl, Nat.le_of_ble_eq_true rfl, cdM_numberOf, lkM_311, imM_numberOf, slM_numberOf, inM_numberOf, pmM_numberOf⟩, List.forall_mem_cons.mpr ⟨⟨_, _, _, _, _, _, _, SM_readPoint, rfl, rfl, Nat.le_of_ble_eq_true rfl, Nat.le_of_ble_eq_true rfl, cdM_readPoint, lkM_315, imM_readPoint, slM_readPoint, inM_readPoint, pmM_readPoint⟩, fun _ h => absurd h List.not_mem_nil⟩⟩⟩⟩⟩⟩) XST_M_ok
def wM_readLine_130 (f : Nat → Int32 → Int32 → Int32 → Int32 → Nat → XH → XR) : List Value → List Value → XH → XR := fun vs st h => match vs, st with
  | [.ref a0, .int x1, .int x2, .int x3], [.int s0, .ref s1] => f a0 x1 x2 x3 s0 s1 h
  | _, _ => none
def wM_readLine_129 (f : Nat → Int32 → Int32 → Int32 → Nat → XH → XR) : List Value → List Value → XH → XR := fun vs st h => match vs, st with
  | [.ref a0, .int x1, .int x2, .int x3], [.ref s0] => f a0 x1 x2 x3 s0 h
  | _, _ => none
def wM_readLine_106 (f : Nat → Int32 → Int32 → Int32 → XH → XR) : List Value → List Value → XH → XR := fun vs st h => match vs, st with
  | [.ref a0, .int x1, .int x2, .int x3], [] => f a0 x1 x2 x3 h
  | _, _ => none
def wM_readLine_89 (f : Nat → Int32 → Int32 → Int32 → XH → XR) : List Value → List Value → XH → XR := fun vs st h => match vs, st with
  | [.ref a0, .int x1, .int x2, .int x3], [] => f a0 x1 x2 x3 h
  | _, _ => none
def wM_readLine_25 (f : Nat → Int32 → Nat → XH → XR) : List Value → List Value → XH → XR := fun vs st h => match vs, st with
  | [.ref a0], [.int s0, .ref s1] => f a0 s0 s1 h
  | _, _ => none
def wM_readLine_24 (f : Nat → Nat → XH → XR) : List Value → List Value → XH → XR := fun vs st h => match vs, st with
  | [.ref a0], [.ref s0] => f a0 s0 h
  | _, _ => none
def wM_readLine (f : Nat → XH → XR) : List Value → List Value → XH → XR := fun vs st h => match vs, st with
  | [.ref a0], [] => f a0 h
  | _, _ => none
set_option maxRecDepth 100000 in
theorem eM_readLine_130 (a0 : Nat) (x1 : Int32) (x2 : Int32) (x3 : Int32) (s0 : Int32) (s1 : Nat) (h : XH) : qM_readLine_130 a0 x1 x2 x3 s0 s1 h = xrun BM_readLine (xfind []) 110 130 (List.zip [0, 1, 2, 3] [.ref a0, .int x1, .int x2, .int x3]) [.int s0, .ref s1] h := rfl
theorem tM_readLine_130 : XTo cX9_readLine 4 RX9 0 6 132 130 [0, 1, 2, 3] (wM_readLine_130 (qM_readLine_130)) := by
  refine XTo.run (B := BM_readLine) (cut := xfind []) kM_readLine (xcuts_ok (fun _ h => absurd h List.not_mem_nil)) 110 (fun vs st h r hr => ?_)
  unfold wM_readLine_130 at hr
  split at hr
  · exact (eM_readLine_130 _ _ _ _ _ _ _).symm.trans hr
  · cases hr
set_option maxRecDepth 100000 in
theorem eM_readLine_129 (a0 : Nat) (x1 : Int32) (x2 : Int32) (x3 : Int32) (s0 : Nat) (h : XH) : qM_readLine_129 a0 x1 x2 x3 s0 h = xrun BM_readLine (xfind [(130, ([0, 1, 2, 3], wM_readLine_130 (qM_readLine_130)))]) 110 129 (List.zip [0, 1, 2, 3] [.ref a0, .int x1, .int x2, .int x3]) [.ref s0] h := rfl
theorem tM_readLine_129 : XTo cX9_readLine 4 RX9 0 6 132 129 [0, 1, 2, 3] (wM_readLine_129 (qM_readLine_129)) := by
  refine XTo.run (B := BM_readLine) (cut := xfind [(130, ([0, 1, 2, 3], wM_readLine_130 (qM_readLine_130)))]) kM_readLine (xcuts_ok (List.forall_mem_cons.mpr ⟨tM_readLine_130, fun _ h => absurd h List.not_mem_nil⟩)) 110 (fun vs st h r hr => ?_)
  unfold wM_readLine_129 at hr
  split at hr
  · exact (eM_readLine_129 _ _ _ _ _ _).symm.trans hr
  · cases hr
set_option maxRecDepth 100000 in
theorem eM_readLine_106 (a0 : Nat) (x1 : Int32) (x2 : Int32) (x3 : Int32) (h : XH) : qM_readLine_106 a0 x1 x2 x3 h = xrun BM_readLine (xfind [(129, ([0, 1, 2, 3], wM_readLine_129 (qM_readLine_129))), (130, ([0, 1, 2, 3], wM_readLine_130 (qM_readLine_130)))]) 110 106 (List.zip [0, 1, 2, 3] [.ref a0, .int x1, .int x2, .int x3]) [] h := rfl
theorem tM_readLine_106 : XTo cX9_readLine 4 RX9 0 6 132 106 [0, 1, 2, 3] (wM_readLine_106 (qM_readLine_106)) := by
  refine XTo.run (B := BM_readLine) (cut := xfind [(129, ([0, 1, 2, 3], wM_readLine_129 (qM_readLine_129))), (130, ([0, 1, 2, 3], wM_readLine_130 (qM_readLine_130)))]) kM_readLine (xcuts_ok (List.forall_mem_cons.mpr ⟨tM_readLine_129, List.forall_mem_cons.mpr ⟨tM_readLine_130, fun _ h => absurd h List.not_mem_nil⟩⟩)) 110 (fun vs st h r hr => ?_)
  unfold wM_readLine_106 at hr
  split at hr
  · exact (eM_readLine_106 _ _ _ _ _).symm.trans hr
  · cases hr
set_option maxRecDepth 100000 in
theorem eM_readLine_89_b (k89 : Nat → Int32 → Int32 → Int32 → XH → XR) (a0 : Nat) (x1 : Int32) (x2 : Int32) (x3 : Int32) (h : XH) : qM_readLine_89_b k89 a0 x1 x2 x3 h = xrun BM_readLine (xfind [(89, ([0, 1, 2, 3], wM_readLine_89 (k89))), (106, ([0, 1, 2, 3], wM_readLine_106 (qM_readLine_106)))]) 110 89 (List.zip [0, 1, 2, 3] [.ref a0, .int x1, .int x2, .int x3]) [] h := rfl
theorem tM_readLine_89_b {k89 : Nat → Int32 → Int32 → Int32 → XH → XR} (hk89 : XTo cX9_readLine 4 RX9 0 6 132 89 [0, 1, 2, 3] (wM_readLine_89 k89)) : XTo cX9_readLine 4 RX9 0 6 132 89 [0, 1, 2, 3] (wM_readLine_89 (qM_readLine_89_b k89)) := by
  refine XTo.run (B := BM_readLine) (cut := xfind [(89, ([0, 1, 2, 3], wM_readLine_89 (k89))), (106, ([0, 1, 2, 3], wM_readLine_106 (qM_readLine_106)))]) kM_readLine (xcuts_ok (List.forall_mem_cons.mpr ⟨hk89, List.forall_mem_cons.mpr ⟨tM_readLine_106, fun _ h => absurd h List.not_mem_nil⟩⟩)) 110 (fun vs st h r hr => ?_)
  unfold wM_readLine_89 at hr
  split at hr
  · exact (eM_readLine_89_b k89 _ _ _ _ _).symm.trans hr
  · cases hr
theorem tM_readLine_89 : ∀ n : Nat, XTo cX9_readLine 4 RX9 0 6 132 89 [0, 1, 2, 3] (wM_readLine_89 (qM_readLine_89 n)) := by
  intro n
  induction n with
  | zero =>
    refine XTo.none fun vs st h => ?_
    unfold wM_readLine_89
    split <;> rfl
  | succ n ih => exact tM_readLine_89_b  ih
set_option maxRecDepth 100000 in
theorem eM_readLine_25 (a0 : Nat) (s0 : Int32) (s1 : Nat) (h : XH) : qM_readLine_25 a0 s0 s1 h = xrun BM_readLine (xfind [(89, ([0, 1, 2, 3], wM_readLine_89 (qM_readLine_89 LF)))]) 110 25 (List.zip [0] [.ref a0]) [.int s0, .ref s1] h := rfl
theorem tM_readLine_25 : XTo cX9_readLine 4 RX9 0 6 132 25 [0] (wM_readLine_25 (qM_readLine_25)) := by
  refine XTo.run (B := BM_readLine) (cut := xfind [(89, ([0, 1, 2, 3], wM_readLine_89 (qM_readLine_89 LF)))]) kM_readLine (xcuts_ok (List.forall_mem_cons.mpr ⟨tM_readLine_89 LF, fun _ h => absurd h List.not_mem_nil⟩)) 110 (fun vs st h r hr => ?_)
  unfold wM_readLine_25 at hr
  split at hr
  · exact (eM_readLine_25 _ _ _ _).symm.trans hr
  · cases hr
set_option maxRecDepth 100000 in
theorem eM_readLine_24 (a0 : Nat) (s0 : Nat) (h : XH) : qM_readLine_24 a0 s0 h = xrun BM_readLine (xfind [(25, ([0], wM_readLine_25 (qM_readLine_25)))]) 110 24 (List.zip [0] [.ref a0]) [.ref s0] h := rfl
theorem tM_readLine_24 : XTo cX9_readLine 4 RX9 0 6 132 24 [0] (wM_readLine_24 (qM_readLine_24)) := by
  refine XTo.run (B := BM_readLine) (cut := xfind [(25, ([0], wM_readLine_25 (qM_readLine_25)))]) kM_readLine (xcuts_ok (List.forall_mem_cons.mpr ⟨tM_readLine_25, fun _ h => absurd h List.not_mem_nil⟩)) 110 (fun vs st h r hr => ?_)
  unfold wM_readLine_24 at hr
  split at hr
  · exact (eM_readLine_24 _ _ _).symm.trans hr
  · cases hr
set_option maxRecDepth 100000 in
theorem eM_readLine (a0 : Nat) (h : XH) : qM_readLine a0 h = xrun BM_readLine (xfind [(24, ([0], wM_readLine_24 (qM_readLine_24))), (25, ([0], wM_readLine_25 (qM_readLine_25)))]) 110 0 (List.zip [0] [.ref a0]) [] h := rfl
theorem tM_readLine : XTo cX9_readLine 4 RX9 0 6 132 0 [0] (wM_readLine (qM_readLine)) := by
  refine XTo.run (B := BM_readLine) (cut := xfind [(24, ([0], wM_readLine_24 (qM_readLine_24))), (25, ([0], wM_readLine_25 (qM_readLine_25)))]) kM_readLine (xcuts_ok (List.forall_mem_cons.mpr ⟨tM_readLine_24, List.forall_mem_cons.mpr ⟨tM_readLine_25, fun _ h => absurd h List.not_mem_nil⟩⟩)) 110 (fun vs st h r hr => ?_)
  unfold wM_readLine at hr
  split at hr
  · exact (eM_readLine _ _).symm.trans hr
  · cases hr
def FM_readLine : List Value → XH → XR := fun vs h => match vs with
  | [.ref a0] => qM_readLine a0 h
  | _ => none
theorem SM_readLine : XS yX9_readLine cX9_readLine 4 none (xrm 6 132) FM_readLine := by
  refine XS.of (own := RX9) (by decide) rfl (rk := 0) rfl (tM_readLine) (fun vs h r hr => ?_)
  unfold FM_readLine at hr
  split at hr
  · exact ⟨rfl, Nat.le_of_ble_eq_true rfl, hr⟩
  · cases hr
