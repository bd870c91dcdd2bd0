-- LineDiagram$Board.isCrossing(II)Z
def rB_isCrossing : List (Nat × XRow) := [(0, (.aload_n 0, 1, 0, .null, [])),
  (1, (.getfield 18, 4, 18, .null, [])),
  (4, (.iload_n 1, 5, 1, .null, [])),
  (5, (.iaload, 6, 0, .null, [])),
  (6, (.ifCond .ne 21, 9, 27, .null, [])),
  (9, (.aload_n 0, 10, 0, .null, [])),
  (10, (.getfield 9, 13, 9, .null, [])),
  (13, (.iload_n 1, 14, 1, .null, [])),
  (14, (.iaload, 15, 0, .null, [])),
  (15, (.iload_n 2, 16, 2, .null, [])),
  (16, (.iand, 17, 0, .null, [])),
  (17, (.invokestatic 130, 20, 130, .null, [])),
  (20, (.ifCond .eq 7, 23, 27, .null, [])),
  (23, (.iconst 1, 24, 0, .int (1 : Int32), [])),
  (24, (.goto 4, 27, 28, .null, [])),
  (27, (.iconst 0, 28, 0, .int (0 : Int32), [])),
  (28, (.ireturn, 29, 0, .null, []))]
def mB_isCrossing : List (Nat × XM) := [(130, (1, 1, none, FB_isOfTwo))]
abbrev BB_isCrossing : XB := (rB_isCrossing, XFT_B, mB_isCrossing, 6, XST_B)
set_option maxRecDepth 100000 in
theorem kB_isCrossing : XOK BB_isCrossing cX0_isCrossing 3 RX0 1 20 := xok_of (cps := []) (K := XKT_B) (by decide +kernel) XKT_B_ok (fun _ h => absurd h List.not_mem_nil) XFT_B_ok (List.forall_mem_cons.mpr ⟨⟨_, _, _, _, _, _, SB_isOfTwo, Nat.le_of_ble_eq_true rfl, Nat.le_of_ble_eq_true rfl, cdB_isOfTwo, lkB_130, imB_isOfTwo, inB_isOfTwo, pmB_isOfTwo⟩, fun _ h => absurd h List.not_mem_nil⟩) XST_B_ok
def wB_isCrossing (f : Nat → Int32 → Int32 → XH → XR) : List Value → List Value → XH → XR := fun vs st h => match vs, st with
  | [.ref a0, .int x1, .int x2], [] => f a0 x1 x2 h
  | _, _ => none
set_option maxRecDepth 100000 in
theorem eB_isCrossing (a0 : Nat) (x1 : Int32) (x2 : Int32) (h : XH) : qB_isCrossing a0 x1 x2 h = xrun BB_isCrossing (xfind []) 20 0 (List.zip [0, 1, 2] [.ref a0, .int x1, .int x2]) [] h := rfl
theorem tB_isCrossing : XTo cX0_isCrossing 3 RX0 6 1 20 0 [0, 1, 2] (wB_isCrossing (qB_isCrossing)) := by
  refine XTo.run (B := BB_isCrossing) (cut := xfind []) kB_isCrossing (xcuts_ok (fun _ h => absurd h List.not_mem_nil)) 20 (fun vs st h r hr => ?_)
  unfold wB_isCrossing at hr
  split at hr
  · exact (eB_isCrossing _ _ _ _).symm.trans hr
  · cases hr
def FB_isCrossing : List Value → XH → XR := fun vs h => match vs with
  | [.ref a0, .int x1, .int x2] => qB_isCrossing a0 x1 x2 h
  | _ => none
theorem SB_isCrossing : XS yX0_isCrossing cX0_isCrossing 3 (some .boolean) (xrm 1 20) FB_isCrossing := by
  refine XS.of (own := RX0) (by decide) rfl (rk := 6) rfl (tB_isCrossing) (fun vs h r hr => ?_)
  unfold FB_isCrossing at hr
  split at hr
  · exact ⟨rfl, Nat.le_of_ble_eq_true rfl, hr⟩
  · cases hr
-- LineDiagram$Board.countCrossings(I)I
def rB_countCrossings : List (Nat × XRow) := [(0, (.iconst 0, 1, 0, .int (0 : Int32), [])),
  (1, (.istore_n 2, 2, 2, .null, [])),
  (2, (.iconst 0, 3, 0, .int (0 : Int32), [])),
  (3, (.istore_n 3, 4, 3, .null, [])),
  (4, (.iload_n 3, 5, 3, .null, [])),
  (5, (.sipush 1600, 8, 0, .int (1600 : Int32), [])),
  (8, (.if_icmp .ge 21, 11, 29, .null, [])),
  (11, (.aload_n 0, 12, 0, .null, [])),
  (12, (.iload_n 3, 13, 3, .null, [])),
  (13, (.iload_n 1, 14, 1, .null, [])),
  (14, (.invokevirtual 134, 17, 134, .null, [])),
  (17, (.ifCond .eq 6, 20, 23, .null, [])),
  (20, (.iinc 2 1, 23, 2, .int (1 : Int32), [])),
  (23, (.iinc 3 1, 26, 3, .int (1 : Int32), [])),
  (26, (.goto (-22), 29, 4, .null, [])),
  (29, (.iload_n 2, 30, 2, .null, [])),
  (30, (.ireturn, 31, 0, .null, []))]
def mB_countCrossings : List (Nat × XM) := [(134, (3, 1, some 0, FB_isCrossing))]
abbrev BB_countCrossings : XB := (rB_countCrossings, XFT_B, mB_countCrossings, 1, XST_B)
set_option maxRecDepth 100000 in
theorem kB_countCrossings : XOK BB_countCrossings cX0_countCrossings 4 RX0 2 42 := xok_of (cps := []) (K := XKT_B) (by decide +kernel) XKT_B_ok (fun _ h => absurd h List.not_mem_nil) XFT_B_ok (List.forall_mem_cons.mpr ⟨⟨_, _, _, _, _, _, _, SB_isCrossing, rfl, rfl, Nat.le_of_ble_eq_true rfl, Nat.le_of_ble_eq_true rfl, cdB_isCrossing, lkB_134, imB_isCrossing, slB_isCrossing, inB_isCrossing, pmB_isCrossing⟩, fun _ h => absurd h List.not_mem_nil⟩) XST_B_ok
def wB_countCrossings_4 (f : Nat → Int32 → Int32 → Int32 → XH → XR) : List Value → List Value → XH → XR := fun vs st h => match vs, st with
  | [.ref a0, .int x1, .int x2, .int x3], [] => f a0 x1 x2 x3 h
  | _, _ => none
def wB_countCrossings (f : Nat → Int32 → XH → XR) : List Value → List Value → XH → XR := fun vs st h => match vs, st with
  | [.ref a0, .int x1], [] => f a0 x1 h
  | _, _ => none
set_option maxRecDepth 100000 in
theorem eB_countCrossings_4_b (k4 : Nat → Int32 → Int32 → Int32 → XH → XR) (a0 : Nat) (x1 : Int32) (x2 : Int32) (x3 : Int32) (h : XH) : qB_countCrossings_4_b k4 a0 x1 x2 x3 h = xrun BB_countCrossings (xfind [(4, ([0, 1, 2, 3], wB_countCrossings_4 (k4)))]) 20 4 (List.zip [0, 1, 2, 3] [.ref a0, .int x1, .int x2, .int x3]) [] h := rfl
theorem tB_countCrossings_4_b {k4 : Nat → Int32 → Int32 → Int32 → XH → XR} (hk4 : XTo cX0_countCrossings 4 RX0 1 2 42 4 [0, 1, 2, 3] (wB_countCrossings_4 k4)) : XTo cX0_countCrossings 4 RX0 1 2 42 4 [0, 1, 2, 3] (wB_countCrossings_4 (qB_countCrossings_4_b k4)) := by
  refine XTo.run (B := BB_countCrossings) (cut := xfind [(4, ([0, 1, 2, 3], wB_countCrossings_4 (k4)))]) kB_countCrossings (xcuts_ok (List.forall_mem_cons.mpr ⟨hk4, fun _ h => absurd h List.not_mem_nil⟩)) 20 (fun vs st h r hr => ?_)
  unfold wB_countCrossings_4 at hr
  split at hr
  · exact (eB_countCrossings_4_b k4 _ _ _ _ _).symm.trans hr
  · cases hr
theorem tB_countCrossings_4 : ∀ n : Nat, XTo cX0_countCrossings 4 RX0 1 2 42 4 [0, 1, 2, 3] (wB_countCrossings_4 (qB_countCrossings_4 n)) := by
  intro n
  induction n with
  | zero =>
    refine XTo.none fun vs st h => ?_
    unfold wB_countCrossings_4
    split <;> rfl
  | succ n ih => exact tB_countCrossings_4_b  ih
set_option maxRecDepth 100000 in
theorem eB_countCrossings (a0 : Nat) (x1 : Int32) (h : XH) : qB_countCrossings a0 x1 h = xrun BB_countCrossings (xfind [(4, ([0, 1, 2, 3], wB_countCrossings_4 (qB_countCrossings_4 LF)))]) 20 0 (List.zip [0, 1] [.ref a0, .int x1]) [] h := rfl
theorem tB_countCrossings : XTo cX0_countCrossings 4 RX0 1 2 42 0 [0, 1] (wB_countCrossings (qB_countCrossings)) := by
  refine XTo.run (B := BB_countCrossings) (cut := xfind [(4, ([0, 1, 2, 3], wB_countCrossings_4 (qB_countCrossings_4 LF)))]) kB_countCrossings (xcuts_ok (List.forall_mem_cons.mpr ⟨tB_countCrossings_4 LF, fun _ h => absurd h List.not_mem_nil⟩)) 20 (fun vs st h r hr => ?_)
  unfold wB_countCrossings at hr
  split at hr
  · exact (eB_countCrossings _ _ _).symm.trans hr
  · cases hr
def FB_countCrossings : List Value → XH → XR := fun vs h => match vs with
  | [.ref a0, .int x1] => qB_countCrossings a0 x1 h
  | _ => none
theorem SB_countCrossings : XS yX0_countCrossings cX0_countCrossings 4 (some .int) (xrm 2 42) FB_countCrossings := by
  refine XS.of (own := RX0) (by decide) rfl (rk := 1) rfl (tB_countCrossings) (fun vs h r hr => ?_)
  unfold FB_countCrossings at hr
  split at hr
  · exact ⟨rfl, Nat.le_of_ble_eq_true rfl, hr⟩
  · cases hr
-- LineDiagram$Board.stepMask(II)I
def rB_stepMask : List (Nat × XRow) := [(0, (.aload_n 0, 1, 0, .null, [])),
  (1, (.getfield 15, 4, 15, .null, [])),
  (4, (.iload_n 1, 5, 1, .null, [])),
  (5, (.iaload, 6, 0, .null, [])),
  (6, (.bipush 8, 8, 0, .int (8 : Int32), [])),
  (8, (.iload_n 2, 9, 2, .null, [])),
  (9, (.imul, 10, 0, .null, [])),
  (10, (.iushr, 11, 0, .null, [])),
  (11, (.sipush 255, 14, 0, .int (255 : Int32), [])),
  (14, (.iand, 15, 0, .null, [])),
  (15, (.ireturn, 16, 0, .null, []))]
def mB_stepMask : List (Nat × XM) := []
abbrev BB_stepMask : XB := (rB_stepMask, XFT_B, mB_stepMask, 1, XST_B)
set_option maxRecDepth 100000 in
theorem kB_stepMask : XOK BB_stepMask cX0_stepMask 3 RX0 0 0 := xok_of (cps := []) (K := XKT_B) (by decide +kernel) XKT_B_ok (fun _ h => absurd h List.not_mem_nil) XFT_B_ok (fun _ h => absurd h List.not_mem_nil) XST_B_ok
def wB_stepMask (f : Nat → Int32 → Int32 → XH → XR) : List Value → List Value → XH → XR := fun vs st h => match vs, st with
  | [.ref a0, .int x1, .int x2], [] => f a0 x1 x2 h
  | _, _ => none
set_option maxRecDepth 100000 in
theorem eB_stepMask (a0 : Nat) (x1 : Int32) (x2 : Int32) (h : XH) : qB_stepMask a0 x1 x2 h = xrun BB_stepMask (xfind []) 14 0 (List.zip [0, 1, 2] [.ref a0, .int x1, .int x2]) [] h := rfl
theorem tB_stepMask : XTo cX0_stepMask 3 RX0 1 0 0 0 [0, 1, 2] (wB_stepMask (qB_stepMask)) := by
  refine XTo.run (B := BB_stepMask) (cut := xfind []) kB_stepMask (xcuts_ok (fun _ h => absurd h List.not_mem_nil)) 14 (fun vs st h r hr => ?_)
  unfold wB_stepMask at hr
  split at hr
  · exact (eB_stepMask _ _ _ _).symm.trans hr
  · cases hr
def FB_stepMask : List Value → XH → XR := fun vs h => match vs with
  | [.ref a0, .int x1, .int x2] => qB_stepMask a0 x1 x2 h
  | _ => none
theorem SB_stepMask : XS yX0_stepMask cX0_stepMask 3 (some .int) (xrm 0 0) FB_stepMask := by
  refine XS.of (own := RX0) (by decide) rfl (rk := 1) rfl (tB_stepMask) (fun vs h r hr => ?_)
  unfold FB_stepMask at hr
  split at hr
  · exact ⟨rfl, Nat.le_of_ble_eq_true rfl, hr⟩
  · cases hr
-- java/lang/Integer.bitCount(I)I
def rJI_bitCount : List (Nat × XRow) := [(0, (.iload_n 0, 1, 0, .null, [])),
  (1, (.iload_n 0, 2, 0, .null, [])),
  (2, (.iconst 1, 3, 0, .int (1 : Int32), [])),
  (3, (.iushr, 4, 0, .null, [])),
  (4, (.ldc_w 265, 7, 265, .int (1431655765 : Int32), [])),
  (7, (.iand, 8, 0, .null, [])),
  (8, (.isub, 9, 0, .null, [])),
  (9, (.istore_n 0, 10, 0, .null, [])),
  (10, (.iload_n 0, 11, 0, .null, [])),
  (11, (.ldc_w 266, 14, 266, .int (858993459 : Int32), [])),
  (14, (.iand, 15, 0, .null, [])),
  (15, (.iload_n 0, 16, 0, .null, [])),
  (16, (.iconst 2, 17, 0, .int (2 : Int32), [])),
  (17, (.iushr, 18, 0, .null, [])),
  (18, (.ldc_w 266, 21, 266, .int (858993459 : Int32), [])),
  (21, (.iand, 22, 0, .null, [])),
  (22, (.iadd, 23, 0, .null, [])),
  (23, (.istore_n 0, 24, 0, .null, [])),
  (24, (.iload_n 0, 25, 0, .null, [])),
  (25, (.iload_n 0, 26, 0, .null, [])),
  (26, (.iconst 4, 27, 0, .int (4 : Int32), [])),
  (27, (.iushr, 28, 0, .null, [])),
  (28, (.iadd, 29, 0, .null, [])),
  (29, (.ldc_w 267, 32, 267, .int (252645135 : Int32), [])),
  (32, (.iand, 33, 0, .null, [])),
  (33, (.istore_n 0, 34, 0, .null, [])),
  (34, (.iload_n 0, 35, 0, .null, [])),
  (35, (.iload_n 0, 36, 0, .null, [])),
  (36, (.bipush 8, 38, 0, .int (8 : Int32), [])),
  (38, (.iushr, 39, 0, .null, [])),
  (39, (.iadd, 40, 0, .null, [])),
  (40, (.istore_n 0, 41, 0, .null, [])),
  (41, (.iload_n 0, 42, 0, .null, [])),
  (42, (.iload_n 0, 43, 0, .null, [])),
  (43, (.bipush 16, 45, 0, .int (16 : Int32), [])),
  (45, (.iushr, 46, 0, .null, [])),
  (46, (.iadd, 47, 0, .null, [])),
  (47, (.istore_n 0, 48, 0, .null, [])),
  (48, (.iload_n 0, 49, 0, .null, [])),
  (49, (.bipush 63, 51, 0, .int (63 : Int32), [])),
  (51, (.iand, 52, 0, .null, [])),
  (52, (.ireturn, 53, 0, .null, []))]
def mJI_bitCount : List (Nat × XM) := []
abbrev BJI_bitCount : XB := (rJI_bitCount, XFT_JI, mJI_bitCount, 1, XST_JI)
set_option maxRecDepth 100000 in
theorem kJI_bitCount : XOK BJI_bitCount cJ6_bitCount_0f7a4 1 RJ6 0 0 := xok_of (cps := []) (K := XKT_JI) (by decide +kernel) XKT_JI_ok (fun _ h => absurd h List.not_mem_nil) XFT_JI_ok (fun _ h => absurd h List.not_mem_nil) XST_JI_ok
def wJI_bitCount (f : Int32 → XH → XR) : List Value → List Value → XH → XR := fun vs st h => match vs, st with
  | [.int x0], [] => f x0 h
  | _, _ => none
set_option maxRecDepth 100000 in
theorem eJI_bitCount (x0 : Int32) (h : XH) : qJI_bitCount x0 h = xrun BJI_bitCount (xfind []) 45 0 (List.zip [0] [.int x0]) [] h := rfl
theorem tJI_bitCount : XTo cJ6_bitCount_0f7a4 1 RJ6 1 0 0 0 [0] (wJI_bitCount (qJI_bitCount)) := by
  refine XTo.run (B := BJI_bitCount) (cut := xfind []) kJI_bitCount (xcuts_ok (fun _ h => absurd h List.not_mem_nil)) 45 (fun vs st h r hr => ?_)
  unfold wJI_bitCount at hr
  split at hr
  · exact (eJI_bitCount _ _).symm.trans hr
  · cases hr
def FJI_bitCount : List Value → XH → XR := fun vs h => match vs with
  | [.int x0] => qJI_bitCount x0 h
  | _ => none
theorem SJI_bitCount : XS yJ6_bitCount_0f7a4 cJ6_bitCount_0f7a4 1 (some .int) (xrm 0 0) FJI_bitCount := by
  refine XS.of (own := RJ6) (by decide) rfl (rk := 1) rfl (tJI_bitCount) (fun vs h r hr => ?_)
  unfold FJI_bitCount at hr
  split at hr
  · exact ⟨rfl, Nat.le_of_ble_eq_true rfl, hr⟩
  · cases hr
-- LineDiagram$Board.countPairs(II)I
def rB_countPairs : List (Nat × XRow) := [(0, (.iload_n 0, 1, 0, .null, [])),
  (1, (.iload_n 1, 2, 1, .null, [])),
  (2, (.iand, 3, 0, .null, [])),
  (3, (.invokestatic 121, 6, 121, .null, [])),
  (6, (.istore_n 2, 7, 2, .null, [])),
  (7, (.iload_n 0, 8, 0, .null, [])),
  (8, (.invokestatic 121, 11, 121, .null, [])),
  (11, (.iload_n 1, 12, 1, .null, [])),
  (12, (.invokestatic 121, 15, 121, .null, [])),
  (15, (.imul, 16, 0, .null, [])),
  (16, (.iload_n 2, 17, 2, .null, [])),
  (17, (.isub, 18, 0, .null, [])),
  (18, (.istore_n 3, 19, 3, .null, [])),
  (19, (.iload_n 3, 20, 3, .null, [])),
  (20, (.iload_n 2, 21, 2, .null, [])),
  (21, (.iload_n 2, 22, 2, .null, [])),
  (22, (.iconst 1, 23, 0, .int (1 : Int32), [])),
  (23, (.isub, 24, 0, .null, [])),
  (24, (.imul, 25, 0, .null, [])),
  (25, (.iconst 2, 26, 0, .int (2 : Int32), [])),
  (26, (.idiv, 27, 0, .null, [])),
  (27, (.isub, 28, 0, .null, [])),
  (28, (.ireturn, 29, 0, .null, []))]
def mB_countPairs : List (Nat × XM) := [(121, (1, 1, none, FJI_bitCount))]
abbrev BB_countPairs : XB := (rB_countPairs, XFT_B, mB_countPairs, 1, XST_B)
set_option maxRecDepth 100000 in
theorem kB_countPairs : XOK BB_countPairs cX0_countPairs 4 RX0 1 20 := xok_of (cps := []) (K := XKT_B) (by decide +kernel) XKT_B_ok (fun _ h => absurd h List.not_mem_nil) XFT_B_ok (List.forall_mem_cons.mpr ⟨⟨_, _, _, _, _, _, SJI_bitCount, Nat.le_of_ble_eq_true rfl, Nat.le_of_ble_eq_true rfl, cdJI_bitCount, lkB_121, imJI_bitCount, inJI_bitCount, pmJI_bitCount⟩, fun _ h => absurd h List.not_mem_nil⟩) XST_B_ok
def wB_countPairs (f : Int32 → Int32 → XH → XR) : List Value → List Value → XH → XR := fun vs st h => match vs, st with
  | [.int x0, .int x1], [] => f x0 x1 h
  | _, _ => none
set_option maxRecDepth 100000 in
theorem eB_countPairs (x0 : Int32) (x1 : Int32) (h : XH) : qB_countPairs x0 x1 h = xrun BB_countPairs (xfind []) 26 0 (List.zip [0, 1] [.int x0, .int x1]) [] h := rfl
theorem tB_countPairs : XTo cX0_countPairs 4 RX0 1 1 20 0 [0, 1] (wB_countPairs (qB_countPairs)) := by
  refine XTo.run (B := BB_countPairs) (cut := xfind []) kB_countPairs (xcuts_ok (fun _ h => absurd h List.not_mem_nil)) 26 (fun vs st h r hr => ?_)
  unfold wB_countPairs at hr
  split at hr
  · exact (eB_countPairs _ _ _).symm.trans hr
  · cases hr
def FB_countPairs : List Value → XH → XR := fun vs h => match vs with
  | [.int x0, .int x1] => qB_countPairs x0 x1 h
  | _ => none
theorem SB_countPairs : XS yX0_countPairs cX0_countPairs 4 (some .int) (xrm 1 20) FB_countPairs := by
  refine XS.of (own := RX0) (by decide) rfl (rk := 1) rfl (tB_countPairs) (fun vs h r hr => ?_)
  unfold FB_countPairs at hr
  split at hr
  · exact ⟨rfl, Nat.le_of_ble_eq_true rfl, hr⟩
  · cases hr
-- LineDiagram$Board.countBetween(I)I
def rB_countBetween : List (Nat × XRow) := [(0, (.iconst 0, 1, 0, .int (0 : Int32), [])),
  (1, (.istore_n 2, 2, 2, .null, [])),
  (2, (.iconst 0, 3, 0, .int (0 : Int32), [])),
  (3, (.istore_n 3, 4, 3, .null, [])),
  (4, (.iload_n 3, 5, 3, .null, [])),
  (5, (.sipush 1599, 8, 0, .int (1599 : Int32), [])),
  (8, (.if_icmp .ge 42, 11, 50, .null, [])),
  (11, (.aload_n 0, 12, 0, .null, [])),
  (12, (.iload_n 3, 13, 3, .null, [])),
  (13, (.iconst 1, 14, 0, .int (1 : Int32), [])),
  (14, (.invokevirtual 141, 17, 141, .null, [])),
  (17, (.iload_n 1, 18, 1, .null, [])),
  (18, (.iand, 19, 0, .null, [])),
  (19, (.istore 4, 21, 4, .null, [])),
  (21, (.iload 4, 23, 4, .null, [])),
  (23, (.ifCond .eq 21, 26, 44, .null, [])),
  (26, (.iload_n 2, 27, 2, .null, [])),
  (27, (.iload 4, 29, 4, .null, [])),
  (29, (.aload_n 0, 30, 0, .null, [])),
  (30, (.iload_n 3, 31, 3, .null, [])),
  (31, (.iconst 1, 32, 0, .int (1 : Int32), [])),
  (32, (.iadd, 33, 0, .null, [])),
  (33, (.iconst 3, 34, 0, .int (3 : Int32), [])),
  (34, (.invokevirtual 141, 37, 141, .null, [])),
  (37, (.iload_n 1, 38, 1, .null, [])),
  (38, (.iand, 39, 0, .null, [])),
  (39, (.invokestatic 144, 42, 144, .null, [])),
  (42, (.iadd, 43, 0, .null, [])),
  (43, (.istore_n 2, 44, 2, .null, [])),
  (44, (.iinc 3 1, 47, 3, .int (1 : Int32), [])),
  (47, (.goto (-43), 50, 4, .null, [])),
  (50, (.iload_n 2, 51, 2, .null, [])),
  (51, (.ireturn, 52, 0, .null, []))]
def mB_countBetween : List (Nat × XM) := [(141, (3, 1, some 0, FB_stepMask)), (144, (2, 1, none, FB_countPairs))]
abbrev BB_countBetween : XB := (rB_countBetween, XFT_B, mB_countBetween, 1, XST_B)
set_option maxRecDepth 100000 in
theorem kB_countBetween : XOK BB_countBetween cX0_countBetween 5 RX0 2 43 := xok_of (cps := []) (K := XKT_B) (by decide +kernel) XKT_B_ok (fun _ h => absurd h List.not_mem_nil) XFT_B_ok (List.forall_mem_cons.mpr ⟨⟨_, _, _, _, _, _, _, SB_stepMask, rfl, rfl, Nat.le_of_ble_eq_true rfl, Nat.le_of_ble_eq_true rfl, cdB_stepMask, lkB_141, imB_stepMask, slB_stepMask, inB_stepMask, pmB_stepMask⟩, List.forall_mem_cons.mpr ⟨⟨_, _, _, _, _, _, SB_countPairs, Nat.le_of_ble_eq_true rfl, Nat.le_of_ble_eq_true rfl, cdB_countPairs, lkB_144, imB_countPairs, inB_countPairs, pmB_countPairs⟩, fun _ h => absurd h List.not_mem_nil⟩⟩) XST_B_ok
def wB_countBetween_4 (f : Nat → Int32 → Int32 → Int32 → XH → XR) : List Value → List Value → XH → XR := fun vs st h => match vs, st with
  | [.ref a0, .int x1, .int x2, .int x3], [] => f a0 x1 x2 x3 h
  | _, _ => none
def wB_countBetween (f : Nat → Int32 → XH → XR) : List Value → List Value → XH → XR := fun vs st h => match vs, st with
  | [.ref a0, .int x1], [] => f a0 x1 h
  | _, _ => none
set_option maxRecDepth 100000 in
theorem eB_countBetween_4_b (k4 : Nat → Int32 → Int32 → Int32 → XH → XR) (a0 : Nat) (x1 : Int32) (x2 : Int32) (x3 : Int32) (h : XH) : qB_countBetween_4_b k4 a0 x1 x2 x3 h = xrun BB_countBetween (xfind [(4, ([0, 1, 2, 3], wB_countBetween_4 (k4)))]) 36 4 (List.zip [0, 1, 2, 3] [.ref a0, .int x1, .int x2, .int x3]) [] h := rfl
theorem tB_countBetween_4_b {k4 : Nat → Int32 → Int32 → Int32 → XH → XR} (hk4 : XTo cX0_countBetween 5 RX0 1 2 43 4 [0, 1, 2, 3] (wB_countBetween_4 k4)) : XTo cX0_countBetween 5 RX0 1 2 43 4 [0, 1, 2, 3] (wB_countBetween_4 (qB_countBetween_4_b k4)) := by
  refine XTo.run (B := BB_countBetween) (cut := xfind [(4, ([0, 1, 2, 3], wB_countBetween_4 (k4)))]) kB_countBetween (xcuts_ok (List.forall_mem_cons.mpr ⟨hk4, fun _ h => absurd h List.not_mem_nil⟩)) 36 (fun vs st h r hr => ?_)
  unfold wB_countBetween_4 at hr
  split at hr
  · exact (eB_countBetween_4_b k4 _ _ _ _ _).symm.trans hr
  · cases hr
theorem tB_countBetween_4 : ∀ n : Nat, XTo cX0_countBetween 5 RX0 1 2 43 4 [0, 1, 2, 3] (wB_countBetween_4 (qB_countBetween_4 n)) := by
  intro n
  induction n with
  | zero =>
    refine XTo.none fun vs st h => ?_
    unfold wB_countBetween_4
    split <;> rfl
  | succ n ih => exact tB_countBetween_4_b  ih
set_option maxRecDepth 100000 in
theorem eB_countBetween (a0 : Nat) (x1 : Int32) (h : XH) : qB_countBetween a0 x1 h = xrun BB_countBetween (xfind [(4, ([0, 1, 2, 3], wB_countBetween_4 (qB_countBetween_4 LF)))]) 36 0 (List.zip [0, 1] [.ref a0, .int x1]) [] h := rfl
theorem tB_countBetween : XTo cX0_countBetween 5 RX0 1 2 43 0 [0, 1] (wB_countBetween (qB_countBetween)) := by
  refine XTo.run (B := BB_countBetween) (cut := xfind [(4, ([0, 1, 2, 3], wB_countBetween_4 (qB_countBetween_4 LF)))]) kB_countBetween (xcuts_ok (List.forall_mem_cons.mpr ⟨tB_countBetween_4 LF, fun _ h => absurd h List.not_mem_nil⟩)) 36 (fun vs st h r hr => ?_)
  unfold wB_countBetween at hr
  split at hr
  · exact (eB_countBetween _ _ _).symm.trans hr
  · cases hr
def FB_countBetween : List Value → XH → XR := fun vs h => match vs with
  | [.ref a0, .int x1] => qB_countBetween a0 x1 h
  | _ => none
theorem SB_countBetween : XS yX0_countBetween cX0_countBetween 5 (some .int) (xrm 2 43) FB_countBetween := by
  refine XS.of (own := RX0) (by decide) rfl (rk := 1) rfl (tB_countBetween) (fun vs h r hr => ?_)
  unfold FB_countBetween at hr
  split at hr
  · exact ⟨rfl, Nat.le_of_ble_eq_true rfl, hr⟩
  · cases hr
-- LineDiagram$Board.countSideBySide(I)I
def rB_countSideBySide : List (Nat × XRow) := [(0, (.iconst 0, 1, 0, .int (0 : Int32), [])),
  (1, (.istore_n 2, 2, 2, .null, [])),
  (2, (.iconst 0, 3, 0, .int (0 : Int32), [])),
  (3, (.istore_n 3, 4, 3, .null, [])),
  (4, (.iload_n 3, 5, 3, .null, [])),
  (5, (.sipush 1600, 8, 0, .int (1600 : Int32), [])),
  (8, (.if_icmp .ge 59, 11, 67, .null, [])),
  (11, (.iconst 0, 12, 0, .int (0 : Int32), [])),
  (12, (.istore 4, 14, 4, .null, [])),
  (14, (.aload_n 0, 15, 0, .null, [])),
  (15, (.getfield 15, 18, 15, .null, [])),
  (18, (.iload_n 3, 19, 3, .null, [])),
  (19, (.iaload, 20, 0, .null, [])),
  (20, (.ifCond .eq 41, 23, 61, .null, [])),
  (23, (.iload 4, 25, 4, .null, [])),
  (25, (.iconst 4, 26, 0, .int (4 : Int32), [])),
  (26, (.if_icmp .ge 35, 29, 61, .null, [])),
  (29, (.aload_n 0, 30, 0, .null, [])),
  (30, (.iload_n 3, 31, 3, .null, [])),
  (31, (.iload 4, 33, 4, .null, [])),
  (33, (.invokevirtual 141, 36, 141, .null, [])),
  (36, (.iload_n 1, 37, 1, .null, [])),
  (37, (.iand, 38, 0, .null, [])),
  (38, (.invokestatic 121, 41, 121, .null, [])),
  (41, (.istore 5, 43, 5, .null, [])),
  (43, (.iload_n 2, 44, 2, .null, [])),
  (44, (.iload 5, 46, 5, .null, [])),
  (46, (.iload 5, 48, 5, .null, [])),
  (48, (.iconst 1, 49, 0, .int (1 : Int32), [])),
  (49, (.isub, 50, 0, .null, [])),
  (50, (.imul, 51, 0, .null, [])),
  (51, (.iconst 2, 52, 0, .int (2 : Int32), [])),
  (52, (.idiv, 53, 0, .null, [])),
  (53, (.iadd, 54, 0, .null, [])),
  (54, (.istore_n 2, 55, 2, .null, [])),
  (55, (.iinc 4 1, 58, 4, .int (1 : Int32), [])),
  (58, (.goto (-44), 61, 14, .null, [])),
  (61, (.iinc 3 1, 64, 3, .int (1 : Int32), [])),
  (64, (.goto (-60), 67, 4, .null, [])),
  (67, (.iload_n 2, 68, 2, .null, [])),
  (68, (.ireturn, 69, 0, .null, []))]
def mB_countSideBySide : List (Nat × XM) := [(121, (1, 1, none, FJI_bitCount)), (141, (3, 1, some 0, FB_stepMask))]
abbrev BB_countSideBySide : XB := (rB_countSideBySide, XFT_B, mB_countSideBySide, 1, XST_B)
set_option maxRecDepth 100000 in
theorem kB_countSideBySide : XOK BB_countSideBySide cX0_countSideBySide 6 RX0 1 22 := xok_of (cps := []) (K := XKT_B) (by decide +kernel) XKT_B_ok (fun _ h => absurd h List.not_mem_nil) XFT_B_ok (List.forall_mem_cons.mpr ⟨⟨_, _, _, _, _, _, SJI_bitCount, Nat.le_of_ble_eq_true rfl, Nat.le_of_ble_eq_true rfl, cdJI_bitCount, lkB_121, imJI_bitCount, inJI_bitCount, pmJI_bitCount⟩, List.forall_mem_cons.mpr ⟨⟨_, _, _, _, _, _, _, SB_stepMask, rfl, rfl, Nat.le_of_ble_eq_true rfl, Nat.le_of_ble_eq_true rfl, cdB_stepMask, lkB_141, imB_stepMask, slB_stepMask, inB_stepMask, pmB_stepMask⟩, fun _ h => absurd h List.not_mem_nil⟩⟩) XST_B_ok
def wB_countSideBySide_14 (f : Nat → Int32 → Int32 → Int32 → Int32 → XH → XR) : List Value → List Value → XH → XR := fun vs st h => match vs, st with
  | [.ref a0, .int x1, .int x2, .int x3, .int x4], [] => f a0 x1 x2 x3 x4 h
  | _, _ => none
def wB_countSideBySide_4 (f : Nat → Int32 → Int32 → Int32 → XH → XR) : List Value → List Value → XH → XR := fun vs st h => match vs, st with
  | [.ref a0, .int x1, .int x2, .int x3], [] => f a0 x1 x2 x3 h
  | _, _ => none
def wB_countSideBySide (f : Nat → Int32 → XH → XR) : List Value → List Value → XH → XR := fun vs st h => match vs, st with
  | [.ref a0, .int x1], [] => f a0 x1 h
  | _, _ => none
set_option maxRecDepth 100000 in
theorem eB_countSideBySide_14_b (k4 : Nat → Int32 → Int32 → Int32 → XH → XR) (k14 : Nat → Int32 → Int32 → Int32 → Int32 → XH → XR) (a0 : Nat) (x1 : Int32) (x2 : Int32) (x3 : Int32) (x4 : Int32) (h : XH) : qB_countSideBySide_14_b k4 k14 a0 x1 x2 x3 x4 h = xrun BB_countSideBySide (xfind [(4, ([0, 1, 2, 3], wB_countSideBySide_4 (k4))), (14, ([0, 1, 2, 3, 4], wB_countSideBySide_14 (k14)))]) 44 14 (List.zip [0, 1, 2, 3, 4] [.ref a0, .int x1, .int x2, .int x3, .int x4]) [] h := rfl
theorem tB_countSideBySide_14_b {k4 : Nat → Int32 → Int32 → Int32 → XH → XR} {k14 : Nat → Int32 → Int32 → Int32 → Int32 → XH → XR} (hk4 : XTo cX0_countSideBySide 6 RX0 1 1 22 4 [0, 1, 2, 3] (wB_countSideBySide_4 k4)) (hk14 : XTo cX0_countSideBySide 6 RX0 1 1 22 14 [0, 1, 2, 3, 4] (wB_countSideBySide_14 k14)) : XTo cX0_countSideBySide 6 RX0 1 1 22 14 [0, 1, 2, 3, 4] (wB_countSideBySide_14 (qB_countSideBySide_14_b k4 k14)) := by
  refine XTo.run (B := BB_countSideBySide) (cut := xfind [(4, ([0, 1, 2, 3], wB_countSideBySide_4 (k4))), (14, ([0, 1, 2, 3, 4], wB_countSideBySide_14 (k14)))]) kB_countSideBySide (xcuts_ok (List.forall_mem_cons.mpr ⟨hk4, List.forall_mem_cons.mpr ⟨hk14, fun _ h => absurd h List.not_mem_nil⟩⟩)) 44 (fun vs st h r hr => ?_)
  unfold wB_countSideBySide_14 at hr
  split at hr
  · exact (eB_countSideBySide_14_b k4 k14 _ _ _ _ _ _).symm.trans hr
  · cases hr
theorem tB_countSideBySide_14 {k4 : Nat → Int32 → Int32 → Int32 → XH → XR} (hk4 : XTo cX0_countSideBySide 6 RX0 1 1 22 4 [0, 1, 2, 3] (wB_countSideBySide_4 k4)) : ∀ n : Nat, XTo cX0_countSideBySide 6 RX0 1 1 22 14 [0, 1, 2, 3, 4] (wB_countSideBySide_14 (qB_countSideBySide_14 k4 n)) := by
  intro n
  induction n with
  | zero =>
    refine XTo.none fun vs st h => ?_
    unfold wB_countSideBySide_14
    split <;> rfl
  | succ n ih => exact tB_countSideBySide_14_b hk4 ih
set_option maxRecDepth 100000 in
theorem eB_countSideBySide_4_b (k4 : Nat → Int32 → Int32 → Int32 → XH → XR) (a0 : Nat) (x1 : Int32) (x2 : Int32) (x3 : Int32) (h : XH) : qB_countSideBySide_4_b k4 a0 x1 x2 x3 h = xrun BB_countSideBySide (xfind [(14, ([0, 1, 2, 3, 4], wB_countSideBySide_14 (qB_countSideBySide_14 k4 LF)))]) 44 4 (List.zip [0, 1, 2, 3] [.ref a0, .int x1, .int x2, .int x3]) [] h := rfl
theorem tB_countSideBySide_4_b {k4 : Nat → Int32 → Int32 → Int32 → XH → XR} (hk4 : XTo cX0_countSideBySide 6 RX0 1 1 22 4 [0, 1, 2, 3] (wB_countSideBySide_4 k4)) : XTo cX0_countSideBySide 6 RX0 1 1 22 4 [0, 1, 2, 3] (wB_countSideBySide_4 (qB_countSideBySide_4_b k4)) := by
  refine XTo.run (B := BB_countSideBySide) (cut := xfind [(14, ([0, 1, 2, 3, 4], wB_countSideBySide_14 (qB_countSideBySide_14 k4 LF)))]) kB_countSideBySide (xcuts_ok (List.forall_mem_cons.mpr ⟨tB_countSideBySide_14 hk4 LF, fun _ h => absurd h List.not_mem_nil⟩)) 44 (fun vs st h r hr => ?_)
  unfold wB_countSideBySide_4 at hr
  split at hr
  · exact (eB_countSideBySide_4_b k4 _ _ _ _ _).symm.trans hr
  · cases hr
theorem tB_countSideBySide_4 : ∀ n : Nat, XTo cX0_countSideBySide 6 RX0 1 1 22 4 [0, 1, 2, 3] (wB_countSideBySide_4 (qB_countSideBySide_4 n)) := by
  intro n
  induction n with
  | zero =>
    refine XTo.none fun vs st h => ?_
    unfold wB_countSideBySide_4
    split <;> rfl
  | succ n ih => exact tB_countSideBySide_4_b  ih
set_option maxRecDepth 100000 in
theorem eB_countSideBySide (a0 : Nat) (x1 : Int32) (h : XH) : qB_countSideBySide a0 x1 h = xrun BB_countSideBySide (xfind [(4, ([0, 1, 2, 3], wB_countSideBySide_4 (qB_countSideBySide_4 LF)))]) 44 0 (List.zip [0, 1] [.ref a0, .int x1]) [] h := rfl
theorem tB_countSideBySide : XTo cX0_countSideBySide 6 RX0 1 1 22 0 [0, 1] (wB_countSideBySide (qB_countSideBySide)) := by
  refine XTo.run (B := BB_countSideBySide) (cut := xfind [(4, ([0, 1, 2, 3], wB_countSideBySide_4 (qB_countSideBySide_4 LF)))]) kB_countSideBySide (xcuts_ok (List.forall_mem_cons.mpr ⟨tB_countSideBySide_4 LF, fun _ h => absurd h List.not_mem_nil⟩)) 44 (fun vs st h r hr => ?_)
  unfold wB_countSideBySide at hr
  split at hr
  · exact (eB_countSideBySide _ _ _).symm.trans hr
  · cases hr
def FB_countSideBySide : List Value → XH → XR := fun vs h => match vs with
  | [.ref a0, .int x1] => qB_countSideBySide a0 x1 h
  | _ => none
theorem SB_countSideBySide : XS yX0_countSideBySide cX0_countSideBySide 6 (some .int) (xrm 1 22) FB_countSideBySide := by
  refine XS.of (own := RX0) (by decide) rfl (rk := 1) rfl (tB_countSideBySide) (fun vs h r hr => ?_)
  unfold FB_countSideBySide at hr
  split at hr
  · exact ⟨rfl, Nat.le_of_ble_eq_true rfl, hr⟩
  · cases hr
-- LineDiagram.value(I)I
def rD_value : List (Nat × XRow) := [(0, (.iload_n 1, 1, 1, .null, [])),
  (1, (.tableswitch 171 0 11 #[63, 71, 79, 87, 95, 103, 111, 122, 130, 138, 149, 160], 64, 172, .null, [((0 : Int32), 64), ((1 : Int32), 72), ((2 : Int32), 80), ((3 : Int32), 88), ((4 : Int32), 96), ((5 : Int32), 104), ((6 : Int32), 112), ((7 : Int32), 123), ((8 : Int32), 131), ((9 : Int32), 139), ((10 : Int32), 150), ((11 : Int32), 161)])),
  (64, (.aload_n 0, 65, 0, .null, [])),
  (65, (.getfield 29, 68, 29, .null, [])),
  (68, (.getfield 209, 71, 209, .null, [])),
  (71, (.ireturn, 72, 0, .null, [])),
  (72, (.aload_n 0, 73, 0, .null, [])),
  (73, (.getfield 29, 76, 29, .null, [])),
  (76, (.getfield 212, 79, 212, .null, [])),
  (79, (.ireturn, 80, 0, .null, [])),
  (80, (.aload_n 0, 81, 0, .null, [])),
  (81, (.getfield 29, 84, 29, .null, [])),
  (84, (.getfield 215, 87, 215, .null, [])),
  (87, (.ireturn, 88, 0, .null, [])),
  (88, (.aload_n 0, 89, 0, .null, [])),
  (89, (.getfield 29, 92, 29, .null, [])),
  (92, (.getfield 104, 95, 104, .null, [])),
  (95, (.ireturn, 96, 0, .null, [])),
  (96, (.aload_n 0, 97, 0, .null, [])),
  (97, (.getfield 29, 100, 29, .null, [])),
  (100, (.invokevirtual 218, 103, 218, .null, [])),
  (103, (.ireturn, 104, 0, .null, [])),
  (104, (.aload_n 0, 105, 0, .null, [])),
  (105, (.getfield 54, 108, 54, .null, [])),
  (108, (.invokevirtual 221, 111, 221, .null, [])),
  (111, (.ireturn, 112, 0, .null, [])),
  (112, (.aload_n 0, 113, 0, .null, [])),
  (113, (.getfield 29, 116, 29, .null, [])),
  (116, (.getfield 161, 119, 161, .null, [])),
  (119, (.getfield 199, 122, 199, .null, [])),
  (122, (.ireturn, 123, 0, .null, [])),
  (123, (.aload_n 0, 124, 0, .null, [])),
  (124, (.getfield 54, 127, 54, .null, [])),
  (127, (.invokevirtual 224, 130, 224, .null, [])),
  (130, (.ireturn, 131, 0, .null, [])),
  (131, (.aload_n 0, 132, 0, .null, [])),
  (132, (.getfield 54, 135, 54, .null, [])),
  (135, (.invokevirtual 227, 138, 227, .null, [])),
  (138, (.ireturn, 139, 0, .null, [])),
  (139, (.aload_n 0, 140, 0, .null, [])),
  (140, (.getfield 54, 143, 54, .null, [])),
  (143, (.sipush 255, 146, 0, .int (255 : Int32), [])),
  (146, (.invokevirtual 230, 149, 230, .null, [])),
  (149, (.ireturn, 150, 0, .null, [])),
  (150, (.aload_n 0, 151, 0, .null, [])),
  (151, (.getfield 54, 154, 54, .null, [])),
  (154, (.sipush 255, 157, 0, .int (255 : Int32), [])),
  (157, (.invokevirtual 233, 160, 233, .null, [])),
  (160, (.ireturn, 161, 0, .null, [])),
  (161, (.aload_n 0, 162, 0, .null, [])),
  (162, (.getfield 54, 165, 54, .null, [])),
  (165, (.sipush 255, 168, 0, .int (255 : Int32), [])),
  (168, (.invokevirtual 236, 171, 236, .null, [])),
  (171, (.ireturn, 172, 0, .null, [])),
  (172, (.iconst (-1), 173, 0, .int (-1 : Int32), [])),
  (173, (.ireturn, 174, 0, .null, []))]
def mD_value : List (Nat × XM) := [(218, (1, 1, some 5, FP_countStations)), (221, (1, 1, some 0, FB_countPlaces)), (224, (1, 1, some 0, FB_countLineCells)), (227, (1, 1, some 0, FB_countLabelCells)), (230, (2, 1, some 0, FB_countCrossings)), (233, (2, 1, some 0, FB_countBetween)), (236, (2, 1, some 0, FB_countSideBySide))]
abbrev BD_value : XB := (rD_value, XFT_D, mD_value, 1, XST_D)
set_option maxRecDepth 100000 in
theorem kD_value : XOK BD_value cX8_value 2 RX8 3 67 := xok_of (cps := []) (K := XKT_D) (by decide +kernel) XKT_D_ok (fun _ h => absurd h List.not_mem_nil) XFT_D_ok (List.forall_mem_cons.mpr ⟨⟨_, _, _, _, _, _, _, SP_countStations, rfl, rfl, Nat.le_of_ble_eq_true rfl, Nat.le_of_ble_eq_true rfl, cdP_countStations, lkD_218, imP_countStations, slP_countStations, inP_countStations, pmP_countStations⟩, List.forall_mem_cons.mpr ⟨⟨_, _, _, _, _, _, _, SB_countPlaces, rfl, rfl, Nat.le_of_ble_eq_true rfl, Nat.le_of_ble_eq_true rfl, cdB_countPlaces, lkD_221, imB_countPlaces, slB_countPlaces, inB_countPlaces, pmB_countPlaces⟩, List.forall_mem_cons.mpr ⟨⟨_, _, _, _, _, _, _, SB_countLineCells, rfl, rfl, Nat.le_of_ble_eq_true rfl, Nat.le_of_ble_eq_true rfl, cdB_countLineCells, lkD_224, imB_countLineCells, slB_countLineCells, inB_countLineCells, pmB_countLineCells⟩, List.forall_mem_cons.mpr ⟨⟨_, _, _, _, _, _, _, SB_countLabelCells, rfl, rfl, Nat.le_of_ble_eq_true rfl, Nat.le_of_ble_eq_true rfl, cdB_countLabelCells, lkD_227, imB_countLabelCells, slB_countLabelCells, inB_countLabelCells, pmB_countLabelCells⟩, List.forall_mem_cons.mpr ⟨⟨_, _, _, _, _, _, _, SB_countCrossings, rfl, rfl, Nat.le_of_ble_eq_true rfl, Nat.le_of_ble_eq_true rfl, cdB_countCrossings, lkD_230, imB_countCrossings, slB_countCrossings, inB_countCrossings, pmB_countCrossings⟩, List.forall_mem_cons.mpr ⟨⟨_, _, _, _, _, _, _, SB_countBetween, rfl, rfl, Nat.le_of_ble_eq_true rfl, Nat.le_of_ble_eq_true rfl, cdB_countBetween, lkD_233, imB_countBetween, slB_countBetween, inB_countBetween, pmB_countBetween⟩, List.forall_mem_cons.mpr ⟨⟨_, _, _, _, _, _, _, SB_countSideBySide, rfl, rfl, Nat.le_of_ble_eq_true rfl, Nat.le_of_ble_eq_true rfl, cdB_countSideBySide, lkD_236, imB_countSideBySide, slB_countSideBySide, inB_countSideBySide, pmB_countSideBySide⟩, fun _ h => absurd h List.not_mem_nil⟩⟩⟩⟩⟩⟩⟩) XST_D_ok
def wD_value (f : Nat → Int32 → XH → XR) : List Value → List Value → XH → XR := fun vs st h => match vs, st with
  | [.ref a0, .int x1], [] => f a0 x1 h
  | _, _ => none
set_option maxRecDepth 100000 in
theorem eD_value (a0 : Nat) (x1 : Int32) (h : XH) : qD_value a0 x1 h = xrun BD_value (xfind []) 59 0 (List.zip [0, 1] [.ref a0, .int x1]) [] h := rfl
theorem tD_value : XTo cX8_value 2 RX8 1 3 67 0 [0, 1] (wD_value (qD_value)) := by
  refine XTo.run (B := BD_value) (cut := xfind []) kD_value (xcuts_ok (fun _ h => absurd h List.not_mem_nil)) 59 (fun vs st h r hr => ?_)
  unfold wD_value at hr
  split at hr
  · exact (eD_value _ _ _).symm.trans hr
  · cases hr
def FD_value : List Value → XH → XR := fun vs h => match vs with
  | [.ref a0, .int x1] => qD_value a0 x1 h
  | _ => none
theorem SD_value : XS yX8_value cX8_value 2 (some .int) (xrm 3 67) FD_value := by
  refine XS.of (own := RX8) (by decide) rfl (rk := 1) rfl (tD_value) (fun vs h r hr => ?_)
  unfold FD_value at hr
  split at hr
  · exact ⟨rfl, Nat.le_of_ble_eq_true rfl, hr⟩
  · cases hr
-- LineDiagramModel.allStops()I
def rM_allStops : List (Nat × XRow) := [(0, (.iconst 0, 1, 0, .int (0 : Int32), [])),
  (1, (.istore_n 1, 2, 1, .null, [])),
  (2, (.iconst 0, 3, 0, .int (0 : Int32), [])),
  (3, (.istore_n 2, 4, 2, .null, [])),
  (4, (.iload_n 2, 5, 2, .null, [])),
  (5, (.aload_n 0, 6, 0, .null, [])),
  (6, (.getfield 100, 9, 100, .null, [])),
  (9, (.if_icmp .ge 18, 12, 27, .null, [])),
  (12, (.iload_n 1, 13, 1, .null, [])),
  (13, (.aload_n 0, 14, 0, .null, [])),
  (14, (.iload_n 2, 15, 2, .null, [])),
  (15, (.iconst 1, 16, 0, .int (1 : Int32), [])),
  (16, (.invokevirtual 88, 19, 88, .null, [])),
  (19, (.iadd, 20, 0, .null, [])),
  (20, (.istore_n 1, 21, 1, .null, [])),
  (21, (.iinc 2 1, 24, 2, .int (1 : Int32), [])),
  (24, (.goto (-20), 27, 4, .null, [])),
  (27, (.iload_n 1, 28, 1, .null, [])),
  (28, (.ireturn, 29, 0, .null, []))]
def mM_allStops : List (Nat × XM) := [(88, (3, 1, some 9, FM_of))]
abbrev BM_allStops : XB := (rM_allStops, XFT_M, mM_allStops, 1, XST_M)
set_option maxRecDepth 100000 in
theorem kM_allStops : XOK BM_allStops cX9_allStops 3 RX9 1 22 := xok_of (cps := []) (K := XKT_M) (by decide +kernel) XKT_M_ok (fun _ h => absurd h List.not_mem_nil) XFT_M_ok (List.forall_mem_cons.mpr ⟨⟨_, _, _, _, _, _, _, SM_of, rfl, rfl, Nat.le_of_ble_eq_true rfl, Nat.le_of_ble_eq_true rfl, cdM_of, lkM_88, imM_of, slM_of, inM_of, pmM_of⟩, fun _ h => absurd h List.not_mem_nil⟩) XST_M_ok
def wM_allStops_4 (f : Nat → Int32 → Int32 → XH → XR) : List Value → List Value → XH → XR := fun vs st h => match vs, st with
  | [.ref a0, .int x1, .int x2], [] => f a0 x1 x2 h
  | _, _ => none
def wM_allStops (f : Nat → XH → XR) : List Value → List Value → XH → XR := fun vs st h => match vs, st with
  | [.ref a0], [] => f a0 h
  | _, _ => none
set_option maxRecDepth 100000 in
theorem eM_allStops_4_b (k4 : Nat → Int32 → Int32 → XH → XR) (a0 : Nat) (x1 : Int32) (x2 : Int32) (h : XH) : qM_allStops_4_b k4 a0 x1 x2 h = xrun BM_allStops (xfind [(4, ([0, 1, 2], wM_allStops_4 (k4)))]) 22 4 (List.zip [0, 1, 2] [.ref a0, .int x1, .int x2]) [] h := rfl
theorem tM_allStops_4_b {k4 : Nat → Int32 → Int32 → XH → XR} (hk4 : XTo cX9_allStops 3 RX9 1 1 22 4 [0, 1, 2] (wM_allStops_4 k4)) : XTo cX9_allStops 3 RX9 1 1 22 4 [0, 1, 2] (wM_allStops_4 (qM_allStops_4_b k4)) := by
  refine XTo.run (B := BM_allStops) (cut := xfind [(4, ([0, 1, 2], wM_allStops_4 (k4)))]) kM_allStops (xcuts_ok (List.forall_mem_cons.mpr ⟨hk4, fun _ h => absurd h List.not_mem_nil⟩)) 22 (fun vs st h r hr => ?_)
  unfold wM_allStops_4 at hr
  split at hr
  · exact (eM_allStops_4_b k4 _ _ _ _).symm.trans hr
  · cases hr
theorem tM_allStops_4 : ∀ n : Nat, XTo cX9_allStops 3 RX9 1 1 22 4 [0, 1, 2] (wM_allStops_4 (qM_allStops_4 n)) := by
  intro n
  induction n with
  | zero =>
    refine XTo.none fun vs st h => ?_
    unfold wM_allStops_4
    split <;> rfl
  | succ n ih => exact tM_allStops_4_b  ih
set_option maxRecDepth 100000 in
theorem eM_allStops (a0 : Nat) (h : XH) : qM_allStops a0 h = xrun BM_allStops (xfind [(4, ([0, 1, 2], wM_allStops_4 (qM_allStops_4 LF)))]) 22 0 (List.zip [0] [.ref a0]) [] h := rfl
theorem tM_allStops : XTo cX9_allStops 3 RX9 1 1 22 0 [0] (wM_allStops (qM_allStops)) := by
  refine XTo.run (B := BM_allStops) (cut := xfind [(4, ([0, 1, 2], wM_allStops_4 (qM_allStops_4 LF)))]) kM_allStops (xcuts_ok (List.forall_mem_cons.mpr ⟨tM_allStops_4 LF, fun _ h => absurd h List.not_mem_nil⟩)) 22 (fun vs st h r hr => ?_)
  unfold wM_allStops at hr
  split at hr
  · exact (eM_allStops _ _).symm.trans hr
  · cases hr
def FM_allStops : List Value → XH → XR := fun vs h => match vs with
  | [.ref a0] => qM_allStops a0 h
  | _ => none
theorem SM_allStops : XS yX9_allStops cX9_allStops 3 (some .int) (xrm 1 22) FM_allStops := by
  refine XS.of (own := RX9) (by decide) rfl (rk := 1) rfl (tM_allStops) (fun vs h r hr => ?_)
  unfold FM_allStops at hr
  split at hr
  · exact ⟨rfl, Nat.le_of_ble_eq_true rfl, hr⟩
  · cases hr
-- LineDiagramModel.sortOf(I)I
def rM_sortOf : List (Nat × XRow) := [(0, (.aload_n 0, 1, 0, .null, [])),
  (1, (.iload_n 1, 2, 1, .null, [])),
  (2, (.invokevirtual 196, 5, 196, .null, [])),
  (5, (.ifCond .eq 7, 8, 12, .null, [])),
  (8, (.iconst 3, 9, 0, .int (3 : Int32), [])),
  (9, (.goto 30, 12, 39, .null, [])),
  (12, (.aload_n 0, 13, 0, .null, [])),
  (13, (.getfield 43, 16, 43, .null, [])),
  (16, (.iload_n 1, 17, 1, .null, [])),
  (17, (.iaload, 18, 0, .null, [])),
  (18, (.ifCond .eq 7, 21, 25, .null, [])),
  (21, (.iconst 2, 22, 0, .int (2 : Int32), [])),
  (22, (.goto 17, 25, 39, .null, [])),
  (25, (.aload_n 0, 26, 0, .null, [])),
  (26, (.getfield 58, 29, 58, .null, [])),
  (29, (.iload_n 1, 30, 1, .null, [])),
  (30, (.iaload, 31, 0, .null, [])),
  (31, (.ifCond .lt 7, 34, 38, .null, [])),
  (34, (.iconst 1, 35, 0, .int (1 : Int32), [])),
  (35, (.goto 4, 38, 39, .null, [])),
  (38, (.iconst 0, 39, 0, .int (0 : Int32), [])),
  (39, (.ireturn, 40, 0, .null, []))]
def mM_sortOf : List (Nat × XM) := [(196, (2, 1, some 9, FM_isPlace))]
abbrev BM_sortOf : XB := (rM_sortOf, XFT_M, mM_sortOf, 1, XST_M)
set_option maxRecDepth 100000 in
theorem kM_sortOf : XOK BM_sortOf cX9_sortOf 2 RX9 1 21 := xok_of (cps := []) (K := XKT_M) (by decide +kernel) XKT_M_ok (fun _ h => absurd h List.not_mem_nil) XFT_M_ok (List.forall_mem_cons.mpr ⟨⟨_, _, _, _, _, _, _, SM_isPlace, rfl, rfl, Nat.le_of_ble_eq_true rfl, Nat.le_of_ble_eq_true rfl, cdM_isPlace, lkM_196, imM_isPlace, slM_isPlace, inM_isPlace, pmM_isPlace⟩, fun _ h => absurd h List.not_mem_nil⟩) XST_M_ok
def wM_sortOf (f : Nat → Int32 → XH → XR) : List Value → List Value → XH → XR := fun vs st h => match vs, st with
  | [.ref a0, .int x1], [] => f a0 x1 h
  | _, _ => none
set_option maxRecDepth 100000 in
theorem eM_sortOf (a0 : Nat) (x1 : Int32) (h : XH) : qM_sortOf a0 x1 h = xrun BM_sortOf (xfind []) 25 0 (List.zip [0, 1] [.ref a0, .int x1]) [] h := rfl
theorem tM_sortOf : XTo cX9_sortOf 2 RX9 1 1 21 0 [0, 1] (wM_sortOf (qM_sortOf)) := by
  refine XTo.run (B := BM_sortOf) (cut := xfind []) kM_sortOf (xcuts_ok (fun _ h => absurd h List.not_mem_nil)) 25 (fun vs st h r hr => ?_)
  unfold wM_sortOf at hr
  split at hr
  · exact (eM_sortOf _ _ _).symm.trans hr
  · cases hr
def FM_sortOf : List Value → XH → XR := fun vs h => match vs with
  | [.ref a0, .int x1] => qM_sortOf a0 x1 h
  | _ => none
theorem SM_sortOf : XS yX9_sortOf cX9_sortOf 2 (some .int) (xrm 1 21) FM_sortOf := by
  refine XS.of (own := RX9) (by decide) rfl (rk := 1) rfl (tM_sortOf) (fun vs h r hr => ?_)
  unfold FM_sortOf at hr
  split at hr
  · exact ⟨rfl, Nat.le_of_ble_eq_true rfl, hr⟩
  · cases hr
-- LineDiagramModel.cellsOf(I)I
def rM_cellsOf : List (Nat × XRow) := [(0, (.iconst 0, 1, 0, .int (0 : Int32), [])),
  (1, (.istore_n 2, 2, 2, .null, [])),
  (2, (.iconst 0, 3, 0, .int (0 : Int32), [])),
  (3, (.istore_n 3, 4, 3, .null, [])),
  (4, (.iload_n 3, 5, 3, .null, [])),
  (5, (.sipush 1600, 8, 0, .int (1600 : Int32), [])),
  (8, (.if_icmp .ge 26, 11, 34, .null, [])),
  (11, (.iload_n 2, 12, 2, .null, [])),
  (12, (.aload_n 0, 13, 0, .null, [])),
  (13, (.iload_n 3, 14, 3, .null, [])),
  (14, (.invokevirtual 414, 17, 414, .null, [])),
  (17, (.iload_n 1, 18, 1, .null, [])),
  (18, (.if_icmp .ne 7, 21, 25, .null, [])),
  (21, (.iconst 1, 22, 0, .int (1 : Int32), [])),
  (22, (.goto 4, 25, 26, .null, [])),
  (25, (.iconst 0, 26, 0, .int (0 : Int32), [])),
  (26, (.iadd, 27, 0, .null, [])),
  (27, (.istore_n 2, 28, 2, .null, [])),
  (28, (.iinc 3 1, 31, 3, .int (1 : Int32), [])),
  (31, (.goto (-27), 34, 4, .null, [])),
  (34, (.iload_n 2, 35, 2, .null, [])),
  (35, (.ireturn, 36, 0, .null, []))]
def mM_cellsOf : List (Nat × XM) := [(414, (2, 1, some 9, FM_sortOf))]
abbrev BM_cellsOf : XB := (rM_cellsOf, XFT_M, mM_cellsOf, 1, XST_M)
set_option maxRecDepth 100000 in
theorem kM_cellsOf : XOK BM_cellsOf cX9_cellsOf 4 RX9 2 42 := xok_of (cps := []) (K := XKT_M) (by decide +kernel) XKT_M_ok (fun _ h => absurd h List.not_mem_nil) XFT_M_ok (List.forall_mem_cons.mpr ⟨⟨_, _, _, _, _, _, _, SM_sortOf, rfl, rfl, Nat.le_of_ble_eq_true rfl, Nat.le_of_ble_eq_true rfl, cdM_sortOf, lkM_414, imM_sortOf, slM_sortOf, inM_sortOf, pmM_sortOf⟩, fun _ h => absurd h List.not_mem_nil⟩) XST_M_ok
def wM_cellsOf_4 (f : Nat → Int32 → Int32 → Int32 → XH → XR) : List Value → List Value → XH → XR := fun vs st h => match vs, st with
  | [.ref a0, .int x1, .int x2, .int x3], [] => f a0 x1 x2 x3 h
  | _, _ => none
def wM_cellsOf (f : Nat → Int32 → XH → XR) : List Value → List Value → XH → XR := fun vs st h => match vs, st with
  | [.ref a0, .int x1], [] => f a0 x1 h
  | _, _ => none
set_option maxRecDepth 100000 in
theorem eM_cellsOf_4_b (k4 : Nat → Int32 → Int32 → Int32 → XH → XR) (a0 : Nat) (x1 : Int32) (x2 : Int32) (x3 : Int32) (h : XH) : qM_cellsOf_4_b k4 a0 x1 x2 x3 h = xrun BM_cellsOf (xfind [(4, ([0, 1, 2, 3], wM_cellsOf_4 (k4)))]) 25 4 (List.zip [0, 1, 2, 3] [.ref a0, .int x1, .int x2, .int x3]) [] h := rfl
theorem tM_cellsOf_4_b {k4 : Nat → Int32 → Int32 → Int32 → XH → XR} (hk4 : XTo cX9_cellsOf 4 RX9 1 2 42 4 [0, 1, 2, 3] (wM_cellsOf_4 k4)) : XTo cX9_cellsOf 4 RX9 1 2 42 4 [0, 1, 2, 3] (wM_cellsOf_4 (qM_cellsOf_4_b k4)) := by
  refine XTo.run (B := BM_cellsOf) (cut := xfind [(4, ([0, 1, 2, 3], wM_cellsOf_4 (k4)))]) kM_cellsOf (xcuts_ok (List.forall_mem_cons.mpr ⟨hk4, fun _ h => absurd h List.not_mem_nil⟩)) 25 (fun vs st h r hr => ?_)
  unfold wM_cellsOf_4 at hr
  split at hr
  · exact (eM_cellsOf_4_b k4 _ _ _ _ _).symm.trans hr
  · cases hr
theorem tM_cellsOf_4 : ∀ n : Nat, XTo cX9_cellsOf 4 RX9 1 2 42 4 [0, 1, 2, 3] (wM_cellsOf_4 (qM_cellsOf_4 n)) := by
  intro n
  induction n with
  | zero =>
    refine XTo.none fun vs st h => ?_
    unfold wM_cellsOf_4
    split <;> rfl
  | succ n ih => exact tM_cellsOf_4_b  ih
set_option maxRecDepth 100000 in
theorem eM_cellsOf (a0 : Nat) (x1 : Int32) (h : XH) : qM_cellsOf a0 x1 h = xrun BM_cellsOf (xfind [(4, ([0, 1, 2, 3], wM_cellsOf_4 (qM_cellsOf_4 LF)))]) 25 0 (List.zip [0, 1] [.ref a0, .int x1]) [] h := rfl
theorem tM_cellsOf : XTo cX9_cellsOf 4 RX9 1 2 42 0 [0, 1] (wM_cellsOf (qM_cellsOf)) := by
  refine XTo.run (B := BM_cellsOf) (cut := xfind [(4, ([0, 1, 2, 3], wM_cellsOf_4 (qM_cellsOf_4 LF)))]) kM_cellsOf (xcuts_ok (List.forall_mem_cons.mpr ⟨tM_cellsOf_4 LF, fun _ h => absurd h List.not_mem_nil⟩)) 25 (fun vs st h r hr => ?_)
  unfold wM_cellsOf at hr
  split at hr
  · exact (eM_cellsOf _ _ _).symm.trans hr
  · cases hr
def FM_cellsOf : List Value → XH → XR := fun vs h => match vs with
  | [.ref a0, .int x1] => qM_cellsOf a0 x1 h
  | _ => none
theorem SM_cellsOf : XS yX9_cellsOf cX9_cellsOf 4 (some .int) (xrm 2 42) FM_cellsOf := by
  refine XS.of (own := RX9) (by decide) rfl (rk := 1) rfl (tM_cellsOf) (fun vs h r hr => ?_)
  unfold FM_cellsOf at hr
  split at hr
  · exact ⟨rfl, Nat.le_of_ble_eq_true rfl, hr⟩
  · cases hr
-- LineDiagramModel.ones(I)I
def rM_ones : List (Nat × XRow) := [(0, (.iconst 0, 1, 0, .int (0 : Int32), [])),
  (1, (.istore_n 1, 2, 1, .null, [])),
  (2, (.iload_n 0, 3, 0, .null, [])),
  (3, (.istore_n 2, 4, 2, .null, [])),
  (4, (.iload_n 2, 5, 2, .null, [])),
  (5, (.ifCond .eq 15, 8, 20, .null, [])),
  (8, (.iinc 1 1, 11, 1, .int (1 : Int32), [])),
  (11, (.iload_n 2, 12, 2, .null, [])),
  (12, (.iload_n 2, 13, 2, .null, [])),
  (13, (.iconst 1, 14, 0, .int (1 : Int32), [])),
  (14, (.isub, 15, 0, .null, [])),
  (15, (.iand, 16, 0, .null, [])),
  (16, (.istore_n 2, 17, 2, .null, [])),
  (17, (.goto (-13), 20, 4, .null, [])),
  (20, (.iload_n 1, 21, 1, .null, [])),
  (21, (.ireturn, 22, 0, .null, []))]
def mM_ones : List (Nat × XM) := []
abbrev BM_ones : XB := (rM_ones, XFT_M, mM_ones, 1, XST_M)
set_option maxRecDepth 100000 in
theorem kM_ones : XOK BM_ones cX9_ones 3 RX9 0 0 := xok_of (cps := []) (K := XKT_M) (by decide +kernel) XKT_M_ok (fun _ h => absurd h List.not_mem_nil) XFT_M_ok (fun _ h => absurd h List.not_mem_nil) XST_M_ok
def wM_ones_4 (f : Int32 → Int32 → XH → XR) : List Value → List Value → XH → XR := fun vs st h => match vs, st with
  | [.int x1, .int x2], [] => f x1 x2 h
  | _, _ => none
def wM_ones (f : Int32 → XH → XR) : List Value → List Value → XH → XR := fun vs st h => match vs, st with
  | [.int x0], [] => f x0 h
  | _, _ => none
set_option maxRecDepth 100000 in
theorem eM_ones_4_b (k4 : Int32 → Int32 → XH → XR) (x1 : Int32) (x2 : Int32) (h : XH) : qM_ones_4_b k4 x1 x2 h = xrun BM_ones (xfind [(4, ([1, 2], wM_ones_4 (k4)))]) 19 4 (List.zip [1, 2] [.int x1, .int x2]) [] h := rfl
theorem tM_ones_4_b {k4 : Int32 → Int32 → XH → XR} (hk4 : XTo cX9_ones 3 RX9 1 0 0 4 [1, 2] (wM_ones_4 k4)) : XTo cX9_ones 3 RX9 1 0 0 4 [1, 2] (wM_ones_4 (qM_ones_4_b k4)) := by
  refine XTo.run (B := BM_ones) (cut := xfind [(4, ([1, 2], wM_ones_4 (k4)))]) kM_ones (xcuts_ok (List.forall_mem_cons.mpr ⟨hk4, fun _ h => absurd h List.not_mem_nil⟩)) 19 (fun vs st h r hr => ?_)
  unfold wM_ones_4 at hr
  split at hr
  · exact (eM_ones_4_b k4 _ _ _).symm.trans hr
  · cases hr
theorem tM_ones_4 : ∀ n : Nat, XTo cX9_ones 3 RX9 1 0 0 4 [1, 2] (wM_ones_4 (qM_ones_4 n)) := by
  intro n
  induction n with
  | zero =>
    refine XTo.none fun vs st h => ?_
    unfold wM_ones_4
    split <;> rfl
  | succ n ih => exact tM_ones_4_b  ih
set_option maxRecDepth 100000 in
theorem eM_ones (x0 : Int32) (h : XH) : qM_ones x0 h = xrun BM_ones (xfind [(4, ([1, 2], wM_ones_4 (qM_ones_4 LF)))]) 19 0 (List.zip [0] [.int x0]) [] h := rfl
theorem tM_ones : XTo cX9_ones 3 RX9 1 0 0 0 [0] (wM_ones (qM_ones)) := by
  refine XTo.run (B := BM_ones) (cut := xfind [(4, ([1, 2], wM_ones_4 (qM_ones_4 LF)))]) kM_ones (xcuts_ok (List.forall_mem_cons.mpr ⟨tM_ones_4 LF, fun _ h => absurd h List.not_mem_nil⟩)) 19 (fun vs st h r hr => ?_)
  unfold wM_ones at hr
  split at hr
  · exact (eM_ones _ _).symm.trans hr
  · cases hr
def FM_ones : List Value → XH → XR := fun vs h => match vs with
  | [.int x0] => qM_ones x0 h
  | _ => none
theorem SM_ones : XS yX9_ones cX9_ones 3 (some .int) (xrm 0 0) FM_ones := by
  refine XS.of (own := RX9) (by decide) rfl (rk := 1) rfl (tM_ones) (fun vs h r hr => ?_)
  unfold FM_ones at hr
  split at hr
  · exact ⟨rfl, Nat.le_of_ble_eq_true rfl, hr⟩
  · cases hr
