-- LineDiagram$Board.countMet(I)I
def rB_countMet : List (Nat × XRow) := [(0, (.iconst 0, 1, 0, .int (0 : Int32), [])),
  (1, (.istore_n 2, 2, 2, .null, [])),
  (2, (.iconst 0, 3, 0, .int (0 : Int32), [])),
  (3, (.istore_n 3, 4, 3, .null, [])),
  (4, (.iload_n 3, 5, 3, .null, [])),
  (5, (.sipush 1600, 8, 0, .int (1600 : Int32), [])),
  (8, (.if_icmp .ge 31, 11, 39, .null, [])),
  (11, (.aload_n 0, 12, 0, .null, [])),
  (12, (.getfield 9, 15, 9, .null, [])),
  (15, (.iload_n 3, 16, 3, .null, [])),
  (16, (.iaload, 17, 0, .null, [])),
  (17, (.iload_n 1, 18, 1, .null, [])),
  (18, (.ishr, 19, 0, .null, [])),
  (19, (.iconst 1, 20, 0, .int (1 : Int32), [])),
  (20, (.iand, 21, 0, .null, [])),
  (21, (.ifCond .eq 12, 24, 33, .null, [])),
  (24, (.iload_n 2, 25, 2, .null, [])),
  (25, (.aload_n 0, 26, 0, .null, [])),
  (26, (.getfield 9, 29, 9, .null, [])),
  (29, (.iload_n 3, 30, 3, .null, [])),
  (30, (.iaload, 31, 0, .null, [])),
  (31, (.ior, 32, 0, .null, [])),
  (32, (.istore_n 2, 33, 2, .null, [])),
  (33, (.iinc 3 1, 36, 3, .int (1 : Int32), [])),
  (36, (.goto (-32), 39, 4, .null, [])),
  (39, (.iload_n 2, 40, 2, .null, [])),
  (40, (.iconst 1, 41, 0, .int (1 : Int32), [])),
  (41, (.iload_n 1, 42, 1, .null, [])),
  (42, (.ishl, 43, 0, .null, [])),
  (43, (.iconst (-1), 44, 0, .int (-1 : Int32), [])),
  (44, (.ixor, 45, 0, .null, [])),
  (45, (.iand, 46, 0, .null, [])),
  (46, (.invokestatic 121, 49, 121, .null, [])),
  (49, (.ireturn, 50, 0, .null, []))]
def mB_countMet : List (Nat × XM) := [(121, (1, 1, none, FJI_bitCount))]
abbrev BB_countMet : XB := (rB_countMet, XFT_B, mB_countMet, 1, XST_B)
set_option maxRecDepth 100000 in
theorem kB_countMet : XOK BB_countMet cX0_countMet 4 RX0 1 20 := xok_of (cps := []) (K := XKT_B) (by decide +kernel) XKT_B_ok (fun _ h => absurd h List.not_mem_nil) XFT_B_ok (List.forall_mem_cons.mpr ⟨⟨_, _, _, _, _, _, SJI_bitCount, Nat.le_of_ble_eq_true rfl, Nat.le_of_ble_eq_true rfl, cdJI_bitCount, lkB_121, imJI_bitCount, inJI_bitCount, pmJI_bitCount⟩, fun _ h => absurd h List.not_mem_nil⟩) XST_B_ok
def wB_countMet_39 (f : Int32 → Int32 → XH → XR) : List Value → List Value → XH → XR := fun vs st h => match vs, st with
  | [.int x1, .int x2], [] => f x1 x2 h
  | _, _ => none
def wB_countMet_4 (f : Nat → Int32 → Int32 → Int32 → XH → XR) : List Value → List Value → XH → XR := fun vs st h => match vs, st with
  | [.ref a0, .int x1, .int x2, .int x3], [] => f a0 x1 x2 x3 h
  | _, _ => none
def wB_countMet (f : Nat → Int32 → XH → XR) : List Value → List Value → XH → XR := fun vs st h => match vs, st with
  | [.ref a0, .int x1], [] => f a0 x1 h
  | _, _ => none
set_option maxRecDepth 100000 in
theorem eB_countMet_39 (x1 : Int32) (x2 : Int32) (h : XH) : qB_countMet_39 x1 x2 h = xrun BB_countMet (xfind []) 37 39 (List.zip [1, 2] [.int x1, .int x2]) [] h := rfl
theorem tB_countMet_39 : XTo cX0_countMet 4 RX0 1 1 20 39 [1, 2] (wB_countMet_39 (qB_countMet_39)) := by
  refine XTo.run (B := BB_countMet) (cut := xfind []) kB_countMet (xcuts_ok (fun _ h => absurd h List.not_mem_nil)) 37 (fun vs st h r hr => ?_)
  unfold wB_countMet_39 at hr
  split at hr
  · exact (eB_countMet_39 _ _ _).symm.trans hr
  · cases hr
set_option maxRecDepth 100000 in
theorem eB_countMet_4_b (k4 : Nat → Int32 → Int32 → Int32 → XH → XR) (a0 : Nat) (x1 : Int32) (x2 : Int32) (x3 : Int32) (h : XH) : qB_countMet_4_b k4 a0 x1 x2 x3 h = xrun BB_countMet (xfind [(4, ([0, 1, 2, 3], wB_countMet_4 (k4))), (39, ([1, 2], wB_countMet_39 (qB_countMet_39)))]) 37 4 (List.zip [0, 1, 2, 3] [.ref a0, .int x1, .int x2, .int x3]) [] h := rfl
theorem tB_countMet_4_b {k4 : Nat → Int32 → Int32 → Int32 → XH → XR} (hk4 : XTo cX0_countMet 4 RX0 1 1 20 4 [0, 1, 2, 3] (wB_countMet_4 k4)) : XTo cX0_countMet 4 RX0 1 1 20 4 [0, 1, 2, 3] (wB_countMet_4 (qB_countMet_4_b k4)) := by
  refine XTo.run (B := BB_countMet) (cut := xfind [(4, ([0, 1, 2, 3], wB_countMet_4 (k4))), (39, ([1, 2], wB_countMet_39 (qB_countMet_39)))]) kB_countMet (xcuts_ok (List.forall_mem_cons.mpr ⟨hk4, List.forall_mem_cons.mpr ⟨tB_countMet_39, fun _ h => absurd h List.not_mem_nil⟩⟩)) 37 (fun vs st h r hr => ?_)
  unfold wB_countMet_4 at hr
  split at hr
  · exact (eB_countMet_4_b k4 _ _ _ _ _).symm.trans hr
  · cases hr
theorem tB_countMet_4 : ∀ n : Nat, XTo cX0_countMet 4 RX0 1 1 20 4 [0, 1, 2, 3] (wB_countMet_4 (qB_countMet_4 n)) := by
  intro n
  induction n with
  | zero =>
    refine XTo.none fun vs st h => ?_
    unfold wB_countMet_4
    split <;> rfl
  | succ n ih => exact tB_countMet_4_b  ih
set_option maxRecDepth 100000 in
theorem eB_countMet (a0 : Nat) (x1 : Int32) (h : XH) : qB_countMet a0 x1 h = xrun BB_countMet (xfind [(4, ([0, 1, 2, 3], wB_countMet_4 (qB_countMet_4 LF)))]) 37 0 (List.zip [0, 1] [.ref a0, .int x1]) [] h := rfl
theorem tB_countMet : XTo cX0_countMet 4 RX0 1 1 20 0 [0, 1] (wB_countMet (qB_countMet)) := by
  refine XTo.run (B := BB_countMet) (cut := xfind [(4, ([0, 1, 2, 3], wB_countMet_4 (qB_countMet_4 LF)))]) kB_countMet (xcuts_ok (List.forall_mem_cons.mpr ⟨tB_countMet_4 LF, fun _ h => absurd h List.not_mem_nil⟩)) 37 (fun vs st h r hr => ?_)
  unfold wB_countMet at hr
  split at hr
  · exact (eB_countMet _ _ _).symm.trans hr
  · cases hr
def FB_countMet : List Value → XH → XR := fun vs h => match vs with
  | [.ref a0, .int x1] => qB_countMet a0 x1 h
  | _ => none
theorem SB_countMet : XS yX0_countMet cX0_countMet 4 (some .int) (xrm 1 20) FB_countMet := by
  refine XS.of (own := RX0) (by decide) rfl (rk := 1) rfl (tB_countMet) (fun vs h r hr => ?_)
  unfold FB_countMet at hr
  split at hr
  · exact ⟨rfl, Nat.le_of_ble_eq_true rfl, hr⟩
  · cases hr
-- LineDiagram.line(II)I
def rD_line : List (Nat × XRow) := [(0, (.aload_n 0, 1, 0, .null, [])),
  (1, (.iload_n 1, 2, 1, .null, [])),
  (2, (.invokevirtual 115, 5, 115, .null, [])),
  (5, (.ifCond .ne 5, 8, 10, .null, [])),
  (8, (.iconst (-1), 9, 0, .int (-1 : Int32), [])),
  (9, (.ireturn, 10, 0, .null, [])),
  (10, (.aload_n 0, 11, 0, .null, [])),
  (11, (.getfield 29, 14, 29, .null, [])),
  (14, (.getfield 123, 17, 123, .null, [])),
  (17, (.iload_n 1, 18, 1, .null, [])),
  (18, (.aaload, 19, 0, .null, [])),
  (19, (.astore_n 3, 20, 3, .null, [])),
  (20, (.iload_n 2, 21, 2, .null, [])),
  (21, (.tableswitch 100 0 8 #[51, 56, 61, 66, 71, 76, 81, 86, 91], 72, 121, .null, [((0 : Int32), 72), ((1 : Int32), 77), ((2 : Int32), 82), ((3 : Int32), 87), ((4 : Int32), 92), ((5 : Int32), 97), ((6 : Int32), 102), ((7 : Int32), 107), ((8 : Int32), 112)])),
  (72, (.aload_n 3, 73, 3, .null, [])),
  (73, (.getfield 127, 76, 127, .null, [])),
  (76, (.ireturn, 77, 0, .null, [])),
  (77, (.aload_n 3, 78, 3, .null, [])),
  (78, (.getfield 145, 81, 145, .null, [])),
  (81, (.ireturn, 82, 0, .null, [])),
  (82, (.aload_n 3, 83, 3, .null, [])),
  (83, (.getfield 148, 86, 148, .null, [])),
  (86, (.ireturn, 87, 0, .null, [])),
  (87, (.aload_n 3, 88, 3, .null, [])),
  (88, (.invokevirtual 239, 91, 239, .null, [])),
  (91, (.ireturn, 92, 0, .null, [])),
  (92, (.aload_n 3, 93, 3, .null, [])),
  (93, (.invokevirtual 242, 96, 242, .null, [])),
  (96, (.ireturn, 97, 0, .null, [])),
  (97, (.aload_n 3, 98, 3, .null, [])),
  (98, (.invokevirtual 245, 101, 245, .null, [])),
  (101, (.ireturn, 102, 0, .null, [])),
  (102, (.aload_n 3, 103, 3, .null, [])),
  (103, (.invokevirtual 248, 106, 248, .null, [])),
  (106, (.ireturn, 107, 0, .null, [])),
  (107, (.aload_n 3, 108, 3, .null, [])),
  (108, (.invokevirtual 251, 111, 251, .null, [])),
  (111, (.ireturn, 112, 0, .null, [])),
  (112, (.aload_n 0, 113, 0, .null, [])),
  (113, (.getfield 54, 116, 54, .null, [])),
  (116, (.iload_n 1, 117, 1, .null, [])),
  (117, (.invokevirtual 254, 120, 254, .null, [])),
  (120, (.ireturn, 121, 0, .null, [])),
  (121, (.iconst (-1), 122, 0, .int (-1 : Int32), [])),
  (122, (.ireturn, 123, 0, .null, []))]
def mD_line : List (Nat × XM) := [(115, (2, 1, some 8, FD_isLine)), (239, (1, 1, some 3, FLn_steps)), (242, (1, 1, some 3, FLn_countBends)), (245, (1, 1, some 3, FLn_greatestTurn)), (248, (1, 1, some 3, FLn_sumOfTurns)), (251, (1, 1, some 3, FLn_slantingSteps)), (254, (2, 1, some 0, FB_countMet))]
abbrev BD_line : XB := (rD_line, XFT_D, mD_line, 1, XST_D)
set_option maxRecDepth 100000 in
theorem kD_line : XOK BD_line cX8_line 4 RX8 4 88 := xok_of (cps := []) (K := XKT_D) (by decide +kernel) XKT_D_ok (fun _ h => absurd h List.not_mem_nil) XFT_D_ok (List.forall_mem_cons.mpr ⟨⟨_, _, _, _, _, _, _, SD_isLine, rfl, rfl, Nat.le_of_ble_eq_true rfl, Nat.le_of_ble_eq_true rfl, cdD_isLine, lkD_115, imD_isLine, slD_isLine, inD_isLine, pmD_isLine⟩, List.forall_mem_cons.mpr ⟨⟨_, _, _, _, _, _, _, SLn_steps, rfl, rfl, Nat.le_of_ble_eq_true rfl, Nat.le_of_ble_eq_true rfl, cdLn_steps, lkD_239, imLn_steps, slLn_steps, inLn_steps, pmLn_steps⟩, List.forall_mem_cons.mpr ⟨⟨_, _, _, _, _, _, _, SLn_countBends, rfl, rfl, Nat.le_of_ble_eq_true rfl, Nat.le_of_ble_eq_true rfl, cdLn_countBends, lkD_242, imLn_countBends, slLn_countBends, inLn_countBends, pmLn_countBends⟩, List.forall_mem_cons.mpr ⟨⟨_, _, _, _, _, _, _, SLn_greatestTurn, rfl, rfl, Nat.le_of_ble_eq_true rfl, Nat.le_of_ble_eq_true rfl, cdLn_greatestTurn, lkD_245, imLn_greatestTurn, slLn_greatestTurn, inLn_greatestTurn, pmLn_greatestTurn⟩, List.forall_mem_cons.mpr ⟨⟨_, _, _, _, _, _, _, SLn_sumOfTurns, rfl, rfl, Nat.le_of_ble_eq_true rfl, Nat.le_of_ble_eq_true rfl, cdLn_sumOfTurns, lkD_248, imLn_sumOfTurns, slLn_sumOfTurns, inLn_sumOfTurns, pmLn_sumOfTurns⟩, List.forall_mem_cons.mpr ⟨⟨_, _, _, _, _, _, _, SLn_slantingSteps, rfl, rfl, Nat.le_of_ble_eq_true rfl, Nat.le_of_ble_eq_true rfl, cdLn_slantingSteps, lkD_251, imLn_slantingSteps, slLn_slantingSteps, inLn_slantingSteps, pmLn_slantingSteps⟩, List.forall_mem_cons.mpr ⟨⟨_, _, _, _, _, _, _, SB_countMet, rfl, rfl, Nat.le_of_ble_eq_true rfl, Nat.le_of_ble_eq_true rfl, cdB_countMet, lkD_254, imB_countMet, slB_countMet, inB_countMet, pmB_countMet⟩, fun _ h => absurd h List.not_mem_nil⟩⟩⟩⟩⟩⟩⟩) XST_D_ok
def wD_line (f : Nat → Int32 → Int32 → XH → XR) : List Value → List Value → XH → XR := fun vs st h => match vs, st with
  | [.ref a0, .int x1, .int x2], [] => f a0 x1 x2 h
  | _, _ => none
set_option maxRecDepth 100000 in
theorem eD_line (a0 : Nat) (x1 : Int32) (x2 : Int32) (h : XH) : qD_line a0 x1 x2 h = xrun BD_line (xfind []) 48 0 (List.zip [0, 1, 2] [.ref a0, .int x1, .int x2]) [] h := rfl
theorem tD_line : XTo cX8_line 4 RX8 1 4 88 0 [0, 1, 2] (wD_line (qD_line)) := by
  refine XTo.run (B := BD_line) (cut := xfind []) kD_line (xcuts_ok (fun _ h => absurd h List.not_mem_nil)) 48 (fun vs st h r hr => ?_)
  unfold wD_line at hr
  split at hr
  · exact (eD_line _ _ _ _).symm.trans hr
  · cases hr
def FD_line : List Value → XH → XR := fun vs h => match vs with
  | [.ref a0, .int x1, .int x2] => qD_line a0 x1 x2 h
  | _ => none
theorem SD_line : XS yX8_line cX8_line 4 (some .int) (xrm 4 88) FD_line := by
  refine XS.of (own := RX8) (by decide) rfl (rk := 1) rfl (tD_line) (fun vs h r hr => ?_)
  unfold FD_line at hr
  split at hr
  · exact ⟨rfl, Nat.le_of_ble_eq_true rfl, hr⟩
  · cases hr
-- LineDiagramModel.turns(II)I
def rM_turns : List (Nat × XRow) := [(0, (.iconst 0, 1, 0, .int (0 : Int32), [])),
  (1, (.istore_n 3, 2, 3, .null, [])),
  (2, (.iconst 1, 3, 0, .int (1 : Int32), [])),
  (3, (.istore 4, 5, 4, .null, [])),
  (5, (.iload 4, 7, 4, .null, [])),
  (7, (.iconst 1, 8, 0, .int (1 : Int32), [])),
  (8, (.iadd, 9, 0, .null, [])),
  (9, (.aload_n 0, 10, 0, .null, [])),
  (10, (.iload_n 1, 11, 1, .null, [])),
  (11, (.iconst 2, 12, 0, .int (2 : Int32), [])),
  (12, (.invokevirtual 88, 15, 88, .null, [])),
  (15, (.if_icmp .ge 64, 18, 79, .null, [])),
  (18, (.aload_n 0, 19, 0, .null, [])),
  (19, (.iload_n 1, 20, 1, .null, [])),
  (20, (.iload 4, 22, 4, .null, [])),
  (22, (.invokevirtual 139, 25, 139, .null, [])),
  (25, (.istore 5, 27, 5, .null, [])),
  (27, (.iload_n 2, 28, 2, .null, [])),
  (28, (.iconst 4, 29, 0, .int (4 : Int32), [])),
  (29, (.if_icmp .ne 18, 32, 47, .null, [])),
  (32, (.iload_n 3, 33, 3, .null, [])),
  (33, (.iload 5, 35, 5, .null, [])),
  (35, (.ifCond .le 7, 38, 42, .null, [])),
  (38, (.iconst 1, 39, 0, .int (1 : Int32), [])),
  (39, (.goto 4, 42, 43, .null, [])),
  (42, (.iconst 0, 43, 0, .int (0 : Int32), [])),
  (43, (.iadd, 44, 0, .null, [])),
  (44, (.goto 28, 47, 72, .null, [])),
  (47, (.iload_n 2, 48, 2, .null, [])),
  (48, (.bipush 6, 50, 0, .int (6 : Int32), [])),
  (50, (.if_icmp .ne 10, 53, 60, .null, [])),
  (53, (.iload_n 3, 54, 3, .null, [])),
  (54, (.iload 5, 56, 5, .null, [])),
  (56, (.iadd, 57, 0, .null, [])),
  (57, (.goto 15, 60, 72, .null, [])),
  (60, (.iload 5, 62, 5, .null, [])),
  (62, (.iload_n 3, 63, 3, .null, [])),
  (63, (.if_icmp .le 8, 66, 71, .null, [])),
  (66, (.iload 5, 68, 5, .null, [])),
  (68, (.goto 4, 71, 72, .null, [])),
  (71, (.iload_n 3, 72, 3, .null, [])),
  (72, (.istore_n 3, 73, 3, .null, [])),
  (73, (.iinc 4 1, 76, 4, .int (1 : Int32), [])),
  (76, (.goto (-71), 79, 5, .null, [])),
  (79, (.iload_n 3, 80, 3, .null, [])),
  (80, (.ireturn, 81, 0, .null, []))]
def mM_turns : List (Nat × XM) := [(88, (3, 1, some 9, FM_of)), (139, (3, 1, some 9, FM_turnAt))]
abbrev BM_turns : XB := (rM_turns, XFT_M, mM_turns, 1, XST_M)
set_option maxRecDepth 100000 in
theorem kM_turns : XOK BM_turns cX9_turns 6 RX9 4 90 := xok_of (cps := []) (K := XKT_M) (by decide +kernel) XKT_M_ok (fun _ h => absurd h List.not_mem_nil) XFT_M_ok (List.forall_mem_cons.mpr ⟨⟨_, _, _, _, _, _, _, SM_of, rfl, rfl, Nat.le_of_ble_eq_true rfl, Nat.le_of_ble_eq_true rfl, cdM_of, lkM_88, imM_of, slM_of, inM_of, pmM_of⟩, List.forall_mem_cons.mpr ⟨⟨_, _, _, _, _, _, _, SM_turnAt, rfl, rfl, Nat.le_of_ble_eq_true rfl, Nat.le_of_ble_eq_true rfl, cdM_turnAt, lkM_139, imM_turnAt, slM_turnAt, inM_turnAt, pmM_turnAt⟩, fun _ h => absurd h List.not_mem_nil⟩⟩) XST_M_ok
def wM_turns_43 (f : Nat → Int32 → Int32 → Int32 → Int32 → Int32 → XH → XR) : List Value → List Value → XH → XR := fun vs st h => match vs, st with
  | [.ref a0, .int x1, .int x2, .int x4], [.int s0, .int s1] => f a0 x1 x2 x4 s0 s1 h
  | _, _ => none
def wM_turns_5 (f : Nat → Int32 → Int32 → Int32 → Int32 → XH → XR) : List Value → List Value → XH → XR := fun vs st h => match vs, st with
  | [.ref a0, .int x1, .int x2, .int x3, .int x4], [] => f a0 x1 x2 x3 x4 h
  | _, _ => none
def wM_turns (f : Nat → Int32 → Int32 → XH → XR) : List Value → List Value → XH → XR := fun vs st h => match vs, st with
  | [.ref a0, .int x1, .int x2], [] => f a0 x1 x2 h
  | _, _ => none
set_option maxRecDepth 100000 in
theorem eM_turns_43 (k5 : Nat → Int32 → Int32 → Int32 → Int32 → XH → XR) (a0 : Nat) (x1 : Int32) (x2 : Int32) (x4 : Int32) (s0 : Int32) (s1 : Int32) (h : XH) : qM_turns_43 k5 a0 x1 x2 x4 s0 s1 h = xrun BM_turns (xfind [(5, ([0, 1, 2, 3, 4], wM_turns_5 (k5)))]) 49 43 (List.zip [0, 1, 2, 4] [.ref a0, .int x1, .int x2, .int x4]) [.int s0, .int s1] h := rfl
theorem tM_turns_43 {k5 : Nat → Int32 → Int32 → Int32 → Int32 → XH → XR} (hk5 : XTo cX9_turns 6 RX9 1 4 90 5 [0, 1, 2, 3, 4] (wM_turns_5 k5)) : XTo cX9_turns 6 RX9 1 4 90 43 [0, 1, 2, 4] (wM_turns_43 (qM_turns_43 k5)) := by
  refine XTo.run (B := BM_turns) (cut := xfind [(5, ([0, 1, 2, 3, 4], wM_turns_5 (k5)))]) kM_turns (xcuts_ok (List.forall_mem_cons.mpr ⟨hk5, fun _ h => absurd h List.not_mem_nil⟩)) 49 (fun vs st h r hr => ?_)
  unfold wM_turns_43 at hr
  split at hr
  · exact (eM_turns_43 k5 _ _ _ _ _ _ _).symm.trans hr
  · cases hr
set_option maxRecDepth 100000 in
theorem eM_turns_5_b (k5 : Nat → Int32 → Int32 → Int32 → Int32 → XH → XR) (a0 : Nat) (x1 : Int32) (x2 : Int32) (x3 : Int32) (x4 : Int32) (h : XH) : qM_turns_5_b k5 a0 x1 x2 x3 x4 h = xrun BM_turns (xfind [(5, ([0, 1, 2, 3, 4], wM_turns_5 (k5))), (43, ([0, 1, 2, 4], wM_turns_43 (qM_turns_43 k5)))]) 49 5 (List.zip [0, 1, 2, 3, 4] [.ref a0, .int x1, .int x2, .int x3, .int x4]) [] h := rfl
theorem tM_turns_5_b {k5 : Nat → Int32 → Int32 → Int32 → Int32 → XH → XR} (hk5 : XTo cX9_turns 6 RX9 1 4 90 5 [0, 1, 2, 3, 4] (wM_turns_5 k5)) : XTo cX9_turns 6 RX9 1 4 90 5 [0, 1, 2, 3, 4] (wM_turns_5 (qM_turns_5_b k5)) := by
  refine XTo.run (B := BM_turns) (cut := xfind [(5, ([0, 1, 2, 3, 4], wM_turns_5 (k5))), (43, ([0, 1, 2, 4], wM_turns_43 (qM_turns_43 k5)))]) kM_turns (xcuts_ok (List.forall_mem_cons.mpr ⟨hk5, List.forall_mem_cons.mpr ⟨tM_turns_43 hk5, fun _ h => absurd h List.not_mem_nil⟩⟩)) 49 (fun vs st h r hr => ?_)
  unfold wM_turns_5 at hr
  split at hr
  · exact (eM_turns_5_b k5 _ _ _ _ _ _).symm.trans hr
  · cases hr
theorem tM_turns_5 : ∀ n : Nat, XTo cX9_turns 6 RX9 1 4 90 5 [0, 1, 2, 3, 4] (wM_turns_5 (qM_turns_5 n)) := by
  intro n
  induction n with
  | zero =>
    refine XTo.none fun vs st h => ?_
    unfold wM_turns_5
    split <;> rfl
  | succ n ih => exact tM_turns_5_b  ih
set_option maxRecDepth 100000 in
theorem eM_turns (a0 : Nat) (x1 : Int32) (x2 : Int32) (h : XH) : qM_turns a0 x1 x2 h = xrun BM_turns (xfind [(5, ([0, 1, 2, 3, 4], wM_turns_5 (qM_turns_5 LF)))]) 49 0 (List.zip [0, 1, 2] [.ref a0, .int x1, .int x2]) [] h := rfl
theorem tM_turns : XTo cX9_turns 6 RX9 1 4 90 0 [0, 1, 2] (wM_turns (qM_turns)) := by
  refine XTo.run (B := BM_turns) (cut := xfind [(5, ([0, 1, 2, 3, 4], wM_turns_5 (qM_turns_5 LF)))]) kM_turns (xcuts_ok (List.forall_mem_cons.mpr ⟨tM_turns_5 LF, fun _ h => absurd h List.not_mem_nil⟩)) 49 (fun vs st h r hr => ?_)
  unfold wM_turns at hr
  split at hr
  · exact (eM_turns _ _ _ _).symm.trans hr
  · cases hr
def FM_turns : List Value → XH → XR := fun vs h => match vs with
  | [.ref a0, .int x1, .int x2] => qM_turns a0 x1 x2 h
  | _ => none
theorem SM_turns : XS yX9_turns cX9_turns 6 (some .int) (xrm 4 90) FM_turns := by
  refine XS.of (own := RX9) (by decide) rfl (rk := 1) rfl (tM_turns) (fun vs h r hr => ?_)
  unfold FM_turns at hr
  split at hr
  · exact ⟨rfl, Nat.le_of_ble_eq_true rfl, hr⟩
  · cases hr
-- LineDiagramModel.slantsOf(I)I
def rM_slantsOf : List (Nat × XRow) := [(0, (.iconst 0, 1, 0, .int (0 : Int32), [])),
  (1, (.istore_n 2, 2, 2, .null, [])),
  (2, (.iconst 0, 3, 0, .int (0 : Int32), [])),
  (3, (.istore_n 3, 4, 3, .null, [])),
  (4, (.iload_n 3, 5, 3, .null, [])),
  (5, (.iconst 1, 6, 0, .int (1 : Int32), [])),
  (6, (.iadd, 7, 0, .null, [])),
  (7, (.aload_n 0, 8, 0, .null, [])),
  (8, (.iload_n 1, 9, 1, .null, [])),
  (9, (.iconst 2, 10, 0, .int (2 : Int32), [])),
  (10, (.invokevirtual 88, 13, 88, .null, [])),
  (13, (.if_icmp .ge 34, 16, 47, .null, [])),
  (16, (.iload_n 2, 17, 2, .null, [])),
  (17, (.aload_n 0, 18, 0, .null, [])),
  (18, (.iload_n 1, 19, 1, .null, [])),
  (19, (.iload_n 3, 20, 3, .null, [])),
  (20, (.invokevirtual 130, 23, 130, .null, [])),
  (23, (.iconst 2, 24, 0, .int (2 : Int32), [])),
  (24, (.irem, 25, 0, .null, [])),
  (25, (.iconst 1, 26, 0, .int (1 : Int32), [])),
  (26, (.if_icmp .ne 12, 29, 38, .null, [])),
  (29, (.aload_n 0, 30, 0, .null, [])),
  (30, (.iload_n 1, 31, 1, .null, [])),
  (31, (.iload_n 3, 32, 3, .null, [])),
  (32, (.invokevirtual 136, 35, 136, .null, [])),
  (35, (.goto 4, 38, 39, .null, [])),
  (38, (.iconst 0, 39, 0, .int (0 : Int32), [])),
  (39, (.iadd, 40, 0, .null, [])),
  (40, (.istore_n 2, 41, 2, .null, [])),
  (41, (.iinc 3 1, 44, 3, .int (1 : Int32), [])),
  (44, (.goto (-40), 47, 4, .null, [])),
  (47, (.iload_n 2, 48, 2, .null, [])),
  (48, (.ireturn, 49, 0, .null, []))]
def mM_slantsOf : List (Nat × XM) := [(88, (3, 1, some 9, FM_of)), (130, (3, 1, some 9, FM_wayOf)), (136, (3, 1, some 9, FM_stepsOf))]
abbrev BM_slantsOf : XB := (rM_slantsOf, XFT_M, mM_slantsOf, 1, XST_M)
set_option maxRecDepth 100000 in
theorem kM_slantsOf : XOK BM_slantsOf cX9_slantsOf 4 RX9 3 68 := xok_of (cps := []) (K := XKT_M) (by decide +kernel) XKT_M_ok (fun _ h => absurd h List.not_mem_nil) XFT_M_ok (List.forall_mem_cons.mpr ⟨⟨_, _, _, _, _, _, _, SM_of, rfl, rfl, Nat.le_of_ble_eq_true rfl, Nat.le_of_ble_eq_true rfl, cdM_of, lkM_88, imM_of, slM_of, inM_of, pmM_of⟩, List.forall_mem_cons.mpr ⟨⟨_, _, _, _, _, _, _, SM_wayOf, rfl, rfl, Nat.le_of_ble_eq_true rfl, Nat.le_of_ble_eq_true rfl, cdM_wayOf, lkM_130, imM_wayOf, slM_wayOf, inM_wayOf, pmM_wayOf⟩, List.forall_mem_cons.mpr ⟨⟨_, _, _, _, _, _, _, SM_stepsOf, rfl, rfl, Nat.le_of_ble_eq_true rfl, Nat.le_of_ble_eq_true rfl, cdM_stepsOf, lkM_136, imM_stepsOf, slM_stepsOf, inM_stepsOf, pmM_stepsOf⟩, fun _ h => absurd h List.not_mem_nil⟩⟩⟩) XST_M_ok
def wM_slantsOf_4 (f : Nat → Int32 → Int32 → Int32 → XH → XR) : List Value → List Value → XH → XR := fun vs st h => match vs, st with
  | [.ref a0, .int x1, .int x2, .int x3], [] => f a0 x1 x2 x3 h
  | _, _ => none
def wM_slantsOf (f : Nat → Int32 → XH → XR) : List Value → List Value → XH → XR := fun vs st h => match vs, st with
  | [.ref a0, .int x1], [] => f a0 x1 h
  | _, _ => none
set_option maxRecDepth 100000 in
theorem eM_slantsOf_4_b (k4 : Nat → Int32 → Int32 → Int32 → XH → XR) (a0 : Nat) (x1 : Int32) (x2 : Int32) (x3 : Int32) (h : XH) : qM_slantsOf_4_b k4 a0 x1 x2 x3 h = xrun BM_slantsOf (xfind [(4, ([0, 1, 2, 3], wM_slantsOf_4 (k4)))]) 36 4 (List.zip [0, 1, 2, 3] [.ref a0, .int x1, .int x2, .int x3]) [] h := rfl
theorem tM_slantsOf_4_b {k4 : Nat → Int32 → Int32 → Int32 → XH → XR} (hk4 : XTo cX9_slantsOf 4 RX9 1 3 68 4 [0, 1, 2, 3] (wM_slantsOf_4 k4)) : XTo cX9_slantsOf 4 RX9 1 3 68 4 [0, 1, 2, 3] (wM_slantsOf_4 (qM_slantsOf_4_b k4)) := by
  refine XTo.run (B := BM_slantsOf) (cut := xfind [(4, ([0, 1, 2, 3], wM_slantsOf_4 (k4)))]) kM_slantsOf (xcuts_ok (List.forall_mem_cons.mpr ⟨hk4, fun _ h => absurd h List.not_mem_nil⟩)) 36 (fun vs st h r hr => ?_)
  unfold wM_slantsOf_4 at hr
  split at hr
  · exact (eM_slantsOf_4_b k4 _ _ _ _ _).symm.trans hr
  · cases hr
theorem tM_slantsOf_4 : ∀ n : Nat, XTo cX9_slantsOf 4 RX9 1 3 68 4 [0, 1, 2, 3] (wM_slantsOf_4 (qM_slantsOf_4 n)) := by
  intro n
  induction n with
  | zero =>
    refine XTo.none fun vs st h => ?_
    unfold wM_slantsOf_4
    split <;> rfl
  | succ n ih => exact tM_slantsOf_4_b  ih
set_option maxRecDepth 100000 in
theorem eM_slantsOf (a0 : Nat) (x1 : Int32) (h : XH) : qM_slantsOf a0 x1 h = xrun BM_slantsOf (xfind [(4, ([0, 1, 2, 3], wM_slantsOf_4 (qM_slantsOf_4 LF)))]) 36 0 (List.zip [0, 1] [.ref a0, .int x1]) [] h := rfl
theorem tM_slantsOf : XTo cX9_slantsOf 4 RX9 1 3 68 0 [0, 1] (wM_slantsOf (qM_slantsOf)) := by
  refine XTo.run (B := BM_slantsOf) (cut := xfind [(4, ([0, 1, 2, 3], wM_slantsOf_4 (qM_slantsOf_4 LF)))]) kM_slantsOf (xcuts_ok (List.forall_mem_cons.mpr ⟨tM_slantsOf_4 LF, fun _ h => absurd h List.not_mem_nil⟩)) 36 (fun vs st h r hr => ?_)
  unfold wM_slantsOf at hr
  split at hr
  · exact (eM_slantsOf _ _ _).symm.trans hr
  · cases hr
def FM_slantsOf : List Value → XH → XR := fun vs h => match vs with
  | [.ref a0, .int x1] => qM_slantsOf a0 x1 h
  | _ => none
theorem SM_slantsOf : XS yX9_slantsOf cX9_slantsOf 4 (some .int) (xrm 3 68) FM_slantsOf := by
  refine XS.of (own := RX9) (by decide) rfl (rk := 1) rfl (tM_slantsOf) (fun vs h r hr => ?_)
  unfold FM_slantsOf at hr
  split at hr
  · exact ⟨rfl, Nat.le_of_ble_eq_true rfl, hr⟩
  · cases hr
-- LineDiagramModel.meets(I)I
def rM_meets : List (Nat × XRow) := [(0, (.iconst 0, 1, 0, .int (0 : Int32), [])),
  (1, (.istore_n 2, 2, 2, .null, [])),
  (2, (.iconst 0, 3, 0, .int (0 : Int32), [])),
  (3, (.istore_n 3, 4, 3, .null, [])),
  (4, (.iload_n 3, 5, 3, .null, [])),
  (5, (.sipush 1600, 8, 0, .int (1600 : Int32), [])),
  (8, (.if_icmp .ge 35, 11, 43, .null, [])),
  (11, (.iload_n 2, 12, 2, .null, [])),
  (12, (.aload_n 0, 13, 0, .null, [])),
  (13, (.getfield 43, 16, 43, .null, [])),
  (16, (.iload_n 3, 17, 3, .null, [])),
  (17, (.iaload, 18, 0, .null, [])),
  (18, (.iload_n 1, 19, 1, .null, [])),
  (19, (.invokestatic 401, 22, 401, .null, [])),
  (22, (.ifCond .eq 12, 25, 34, .null, [])),
  (25, (.aload_n 0, 26, 0, .null, [])),
  (26, (.getfield 43, 29, 43, .null, [])),
  (29, (.iload_n 3, 30, 3, .null, [])),
  (30, (.iaload, 31, 0, .null, [])),
  (31, (.goto 4, 34, 35, .null, [])),
  (34, (.iconst 0, 35, 0, .int (0 : Int32), [])),
  (35, (.ior, 36, 0, .null, [])),
  (36, (.istore_n 2, 37, 2, .null, [])),
  (37, (.iinc 3 1, 40, 3, .int (1 : Int32), [])),
  (40, (.goto (-36), 43, 4, .null, [])),
  (43, (.iload_n 2, 44, 2, .null, [])),
  (44, (.iconst 1, 45, 0, .int (1 : Int32), [])),
  (45, (.iload_n 1, 46, 1, .null, [])),
  (46, (.ishl, 47, 0, .null, [])),
  (47, (.iconst (-1), 48, 0, .int (-1 : Int32), [])),
  (48, (.ixor, 49, 0, .null, [])),
  (49, (.iand, 50, 0, .null, [])),
  (50, (.invokestatic 395, 53, 395, .null, [])),
  (53, (.ireturn, 54, 0, .null, []))]
def mM_meets : List (Nat × XM) := [(395, (1, 1, none, FM_ones)), (401, (2, 1, none, FM_has))]
abbrev BM_meets : XB := (rM_meets, XFT_M, mM_meets, 1, XST_M)
set_option maxRecDepth 100000 in
theorem kM_meets : XOK BM_meets cX9_meets 4 RX9 1 22 := xok_of (cps := []) (K := XKT_M) (by decide +kernel) XKT_M_ok (fun _ h => absurd h List.not_mem_nil) XFT_M_ok (List.forall_mem_cons.mpr ⟨⟨_, _, _, _, _, _, SM_ones, Nat.le_of_ble_eq_true rfl, Nat.le_of_ble_eq_true rfl, cdM_ones, lkM_395, imM_ones, inM_ones, pmM_ones⟩, List.forall_mem_cons.mpr ⟨⟨_, _, _, _, _, _, SM_has, Nat.le_of_ble_eq_true rfl, Nat.le_of_ble_eq_true rfl, cdM_has, lkM_401, imM_has, inM_has, pmM_has⟩, fun _ h => absurd h List.not_mem_nil⟩⟩) XST_M_ok
def wM_meets_43 (f : Int32 → Int32 → XH → XR) : List Value → List Value → XH → XR := fun vs st h => match vs, st with
  | [.int x1, .int x2], [] => f x1 x2 h
  | _, _ => none
def wM_meets_4 (f : Nat → Int32 → Int32 → Int32 → XH → XR) : List Value → List Value → XH → XR := fun vs st h => match vs, st with
  | [.ref a0, .int x1, .int x2, .int x3], [] => f a0 x1 x2 x3 h
  | _, _ => none
def wM_meets (f : Nat → Int32 → XH → XR) : List Value → List Value → XH → XR := fun vs st h => match vs, st with
  | [.ref a0, .int x1], [] => f a0 x1 h
  | _, _ => none
set_option maxRecDepth 100000 in
theorem eM_meets_43 (x1 : Int32) (x2 : Int32) (h : XH) : qM_meets_43 x1 x2 h = xrun BM_meets (xfind []) 37 43 (List.zip [1, 2] [.int x1, .int x2]) [] h := rfl
theorem tM_meets_43 : XTo cX9_meets 4 RX9 1 1 22 43 [1, 2] (wM_meets_43 (qM_meets_43)) := by
  refine XTo.run (B := BM_meets) (cut := xfind []) kM_meets (xcuts_ok (fun _ h => absurd h List.not_mem_nil)) 37 (fun vs st h r hr => ?_)
  unfold wM_meets_43 at hr
  split at hr
  · exact (eM_meets_43 _ _ _).symm.trans hr
  · cases hr
set_option maxRecDepth 100000 in
theorem eM_meets_4_b (k4 : Nat → Int32 → Int32 → Int32 → XH → XR) (a0 : Nat) (x1 : Int32) (x2 : Int32) (x3 : Int32) (h : XH) : qM_meets_4_b k4 a0 x1 x2 x3 h = xrun BM_meets (xfind [(4, ([0, 1, 2, 3], wM_meets_4 (k4))), (43, ([1, 2], wM_meets_43 (qM_meets_43)))]) 37 4 (List.zip [0, 1, 2, 3] [.ref a0, .int x1, .int x2, .int x3]) [] h := rfl
theorem tM_meets_4_b {k4 : Nat → Int32 → Int32 → Int32 → XH → XR} (hk4 : XTo cX9_meets 4 RX9 1 1 22 4 [0, 1, 2, 3] (wM_meets_4 k4)) : XTo cX9_meets 4 RX9 1 1 22 4 [0, 1, 2, 3] (wM_meets_4 (qM_meets_4_b k4)) := by
  refine XTo.run (B := BM_meets) (cut := xfind [(4, ([0, 1, 2, 3], wM_meets_4 (k4))), (43, ([1, 2], wM_meets_43 (qM_meets_43)))]) kM_meets (xcuts_ok (List.forall_mem_cons.mpr ⟨hk4, List.forall_mem_cons.mpr ⟨tM_meets_43, fun _ h => absurd h List.not_mem_nil⟩⟩)) 37 (fun vs st h r hr => ?_)
  unfold wM_meets_4 at hr
  split at hr
  · exact (eM_meets_4_b k4 _ _ _ _ _).symm.trans hr
  · cases hr
theorem tM_meets_4 : ∀ n : Nat, XTo cX9_meets 4 RX9 1 1 22 4 [0, 1, 2, 3] (wM_meets_4 (qM_meets_4 n)) := by
  intro n
  induction n with
  | zero =>
    refine XTo.none fun vs st h => ?_
    unfold wM_meets_4
    split <;> rfl
  | succ n ih => exact tM_meets_4_b  ih
set_option maxRecDepth 100000 in
theorem eM_meets (a0 : Nat) (x1 : Int32) (h : XH) : qM_meets a0 x1 h = xrun BM_meets (xfind [(4, ([0, 1, 2, 3], wM_meets_4 (qM_meets_4 LF)))]) 37 0 (List.zip [0, 1] [.ref a0, .int x1]) [] h := rfl
theorem tM_meets : XTo cX9_meets 4 RX9 1 1 22 0 [0, 1] (wM_meets (qM_meets)) := by
  refine XTo.run (B := BM_meets) (cut := xfind [(4, ([0, 1, 2, 3], wM_meets_4 (qM_meets_4 LF)))]) kM_meets (xcuts_ok (List.forall_mem_cons.mpr ⟨tM_meets_4 LF, fun _ h => absurd h List.not_mem_nil⟩)) 37 (fun vs st h r hr => ?_)
  unfold wM_meets at hr
  split at hr
  · exact (eM_meets _ _ _).symm.trans hr
  · cases hr
def FM_meets : List Value → XH → XR := fun vs h => match vs with
  | [.ref a0, .int x1] => qM_meets a0 x1 h
  | _ => none
theorem SM_meets : XS yX9_meets cX9_meets 4 (some .int) (xrm 1 22) FM_meets := by
  refine XS.of (own := RX9) (by decide) rfl (rk := 1) rfl (tM_meets) (fun vs h r hr => ?_)
  unfold FM_meets at hr
  split at hr
  · exact ⟨rfl, Nat.le_of_ble_eq_true rfl, hr⟩
  · cases hr
-- LineDiagramModel.line(II)I
def rM_line : List (Nat × XRow) := [(0, (.aload_n 0, 1, 0, .null, [])),
  (1, (.iload_n 1, 2, 1, .null, [])),
  (2, (.invokevirtual 103, 5, 103, .null, [])),
  (5, (.ifCond .ne 5, 8, 10, .null, [])),
  (8, (.iconst (-1), 9, 0, .int (-1 : Int32), [])),
  (9, (.ireturn, 10, 0, .null, [])),
  (10, (.iload_n 2, 11, 2, .null, [])),
  (11, (.tableswitch 99 0 8 #[49, 56, 63, 70, 76, 76, 76, 83, 89], 60, 110, .null, [((0 : Int32), 60), ((1 : Int32), 67), ((2 : Int32), 74), ((3 : Int32), 81), ((4 : Int32), 87), ((5 : Int32), 87), ((6 : Int32), 87), ((7 : Int32), 94), ((8 : Int32), 100)])),
  (60, (.aload_n 0, 61, 0, .null, [])),
  (61, (.iload_n 1, 62, 1, .null, [])),
  (62, (.iconst 2, 63, 0, .int (2 : Int32), [])),
  (63, (.invokevirtual 88, 66, 88, .null, [])),
  (66, (.ireturn, 67, 0, .null, [])),
  (67, (.aload_n 0, 68, 0, .null, [])),
  (68, (.iload_n 1, 69, 1, .null, [])),
  (69, (.iconst 1, 70, 0, .int (1 : Int32), [])),
  (70, (.invokevirtual 88, 73, 88, .null, [])),
  (73, (.ireturn, 74, 0, .null, [])),
  (74, (.aload_n 0, 75, 0, .null, [])),
  (75, (.iload_n 1, 76, 1, .null, [])),
  (76, (.iconst 0, 77, 0, .int (0 : Int32), [])),
  (77, (.invokevirtual 88, 80, 88, .null, [])),
  (80, (.ireturn, 81, 0, .null, [])),
  (81, (.aload_n 0, 82, 0, .null, [])),
  (82, (.iload_n 1, 83, 1, .null, [])),
  (83, (.invokevirtual 142, 86, 142, .null, [])),
  (86, (.ireturn, 87, 0, .null, [])),
  (87, (.aload_n 0, 88, 0, .null, [])),
  (88, (.iload_n 1, 89, 1, .null, [])),
  (89, (.iload_n 2, 90, 2, .null, [])),
  (90, (.invokevirtual 430, 93, 430, .null, [])),
  (93, (.ireturn, 94, 0, .null, [])),
  (94, (.aload_n 0, 95, 0, .null, [])),
  (95, (.iload_n 1, 96, 1, .null, [])),
  (96, (.invokevirtual 433, 99, 433, .null, [])),
  (99, (.ireturn, 100, 0, .null, [])),
  (100, (.aload_n 0, 101, 0, .null, [])),
  (101, (.invokevirtual 380, 104, 380, .null, [])),
  (104, (.aload_n 0, 105, 0, .null, [])),
  (105, (.iload_n 1, 106, 1, .null, [])),
  (106, (.invokevirtual 436, 109, 436, .null, [])),
  (109, (.ireturn, 110, 0, .null, [])),
  (110, (.iconst (-1), 111, 0, .int (-1 : Int32), [])),
  (111, (.ireturn, 112, 0, .null, []))]
def mM_line : List (Nat × XM) := [(88, (3, 1, some 9, FM_of)), (103, (2, 1, some 9, FM_isLine)), (142, (2, 1, some 9, FM_lengthOf)), (380, (1, 0, some 9, FM_lays)), (430, (3, 1, some 9, FM_turns)), (433, (2, 1, some 9, FM_slantsOf)), (436, (2, 1, some 9, FM_meets))]
abbrev BM_line : XB := (rM_line, XFT_M, mM_line, 1, XST_M)
set_option maxRecDepth 100000 in
theorem kM_line : XOK BM_line cX9_line 3 RX9 6 138 := xok_of (cps := []) (K := XKT_M) (by decide +kernel) XKT_M_ok (fun _ h => absurd h List.not_mem_nil) XFT_M_ok (List.forall_mem_cons.mpr ⟨⟨_, _, _, _, _, _, _, SM_of, rfl, rfl, Nat.le_of_ble_eq_true rfl, Nat.le_of_ble_eq_true rfl, cdM_of, lkM_88, imM_of, slM_of, inM_of, pmM_of⟩, List.forall_mem_cons.mpr ⟨⟨_, _, _, _, _, _, _, SM_isLine, rfl, rfl, Nat.le_of_ble_eq_true rfl, Nat.le_of_ble_eq_true rfl, cdM_isLine, lkM_103, imM_isLine, slM_isLine, inM_isLine, pmM_isLine⟩, List.forall_mem_cons.mpr ⟨⟨_, _, _, _, _, _, _, SM_lengthOf, rfl, rfl, Nat.le_of_ble_eq_true rfl, Nat.le_of_ble_eq_true rfl, cdM_lengthOf, lkM_142, imM_lengthOf, slM_lengthOf, inM_lengthOf, pmM_lengthOf⟩, List.forall_mem_cons.mpr ⟨⟨_, _, _, _, _, _, _, SM_lays, rfl, rfl, Nat.le_of_ble_eq_true rfl, Nat.le_of_ble_eq_true rfl, cdM_lays, lkM_380, imM_lays, slM_lays, inM_lays, pmM_lays⟩, List.forall_mem_cons.mpr ⟨⟨_, _, _, _, _, _, _, SM_turns, rfl, rfl, Nat.le_of_ble_eq_true rfl, Nat.le_of_ble_eq_true rfl, cdM_turns, lkM_430, imM_turns, slM_turns, inM_turns, pmM_turns⟩, List.forall_mem_cons.mpr ⟨⟨_, _, _, _, _, _, _, SM_slantsOf, rfl, rfl, Nat.le_of_ble_eq_true rfl, Nat.le_of_ble_eq_true rfl, cdM_slantsOf, lkM_433, imM_slantsOf, slM_slantsOf, inM_slantsOf, pmM_slantsOf⟩, List.forall_mem_cons.mpr ⟨⟨_, _, _, _, _, _, _, SM_meets, rfl, rfl, Nat.le_of_ble_eq_true rfl, Nat.le_of_ble_eq_true rfl, cdM_meets, lkM_436, imM_meets, slM_meets, inM_meets, pmM_meets⟩, fun _ h => absurd h List.not_mem_nil⟩⟩⟩⟩⟩⟩⟩) XST_M_ok
def wM_line_87 (f : Nat → Int32 → Int32 → XH → XR) : List Value → List Value → XH → XR := fun vs st h => match vs, st with
  | [.ref a0, .int x1, .int x2], [] => f a0 x1 x2 h
  | _, _ => none
def wM_line (f : Nat → Int32 → Int32 → XH → XR) : List Value → List Value → XH → XR := fun vs st h => match vs, st with
  | [.ref a0, .int x1, .int x2], [] => f a0 x1 x2 h
  | _, _ => none
set_option maxRecDepth 100000 in
theorem eM_line_87 (a0 : Nat) (x1 : Int32) (x2 : Int32) (h : XH) : qM_line_87 a0 x1 x2 h = xrun BM_line (xfind []) 47 87 (List.zip [0, 1, 2] [.ref a0, .int x1, .int x2]) [] h := rfl
theorem tM_line_87 : XTo cX9_line 3 RX9 1 6 138 87 [0, 1, 2] (wM_line_87 (qM_line_87)) := by
  refine XTo.run (B := BM_line) (cut := xfind []) kM_line (xcuts_ok (fun _ h => absurd h List.not_mem_nil)) 47 (fun vs st h r hr => ?_)
  unfold wM_line_87 at hr
  split at hr
  · exact (eM_line_87 _ _ _ _).symm.trans hr
  · cases hr
set_option maxRecDepth 100000 in
theorem eM_line (a0 : Nat) (x1 : Int32) (x2 : Int32) (h : XH) : qM_line a0 x1 x2 h = xrun BM_line (xfind [(87, ([0, 1, 2], wM_line_87 (qM_line_87)))]) 47 0 (List.zip [0, 1, 2] [.ref a0, .int x1, .int x2]) [] h := rfl
theorem tM_line : XTo cX9_line 3 RX9 1 6 138 0 [0, 1, 2] (wM_line (qM_line)) := by
  refine XTo.run (B := BM_line) (cut := xfind [(87, ([0, 1, 2], wM_line_87 (qM_line_87)))]) kM_line (xcuts_ok (List.forall_mem_cons.mpr ⟨tM_line_87, fun _ h => absurd h List.not_mem_nil⟩)) 47 (fun vs st h r hr => ?_)
  unfold wM_line at hr
  split at hr
  · exact (eM_line _ _ _ _).symm.trans hr
  · cases hr
def FM_line : List Value → XH → XR := fun vs h => match vs with
  | [.ref a0, .int x1, .int x2] => qM_line a0 x1 x2 h
  | _ => none
theorem SM_line : XS yX9_line cX9_line 3 (some .int) (xrm 6 138) FM_line := by
  refine XS.of (own := RX9) (by decide) rfl (rk := 1) rfl (tM_line) (fun vs h r hr => ?_)
  unfold FM_line at hr
  split at hr
  · exact ⟨rfl, Nat.le_of_ble_eq_true rfl, hr⟩
  · cases hr
-- LineDiagram.point(IIZ)I
def rD_point : List (Nat × XRow) := [(0, (.aload_n 0, 1, 0, .null, [])),
  (1, (.iload_n 1, 2, 1, .null, [])),
  (2, (.iload_n 2, 3, 2, .null, [])),
  (3, (.invokevirtual 136, 6, 136, .null, [])),
  (6, (.ifCond .ne 5, 9, 11, .null, [])),
  (9, (.iconst (-1), 10, 0, .int (-1 : Int32), [])),
  (10, (.ireturn, 11, 0, .null, [])),
  (11, (.iload_n 3, 12, 3, .null, [])),
  (12, (.ifCond .eq 20, 15, 32, .null, [])),
  (15, (.aload_n 0, 16, 0, .null, [])),
  (16, (.getfield 29, 19, 29, .null, [])),
  (19, (.getfield 123, 22, 123, .null, [])),
  (22, (.iload_n 1, 23, 1, .null, [])),
  (23, (.aaload, 24, 0, .null, [])),
  (24, (.getfield 257, 27, 257, .null, [])),
  (27, (.iload_n 2, 28, 2, .null, [])),
  (28, (.iaload, 29, 0, .null, [])),
  (29, (.goto 17, 32, 46, .null, [])),
  (32, (.aload_n 0, 33, 0, .null, [])),
  (33, (.getfield 29, 36, 29, .null, [])),
  (36, (.getfield 123, 39, 123, .null, [])),
  (39, (.iload_n 1, 40, 1, .null, [])),
  (40, (.aaload, 41, 0, .null, [])),
  (41, (.getfield 260, 44, 260, .null, [])),
  (44, (.iload_n 2, 45, 2, .null, [])),
  (45, (.iaload, 46, 0, .null, [])),
  (46, (.ireturn, 47, 0, .null, []))]
def mD_point : List (Nat × XM) := [(136, (3, 1, some 8, FD_isPoint))]
abbrev BD_point : XB := (rD_point, XFT_D, mD_point, 1, XST_D)
set_option maxRecDepth 100000 in
theorem kD_point : XOK BD_point cX8_point 4 RX8 2 43 := xok_of (cps := []) (K := XKT_D) (by decide +kernel) XKT_D_ok (fun _ h => absurd h List.not_mem_nil) XFT_D_ok (List.forall_mem_cons.mpr ⟨⟨_, _, _, _, _, _, _, SD_isPoint, rfl, rfl, Nat.le_of_ble_eq_true rfl, Nat.le_of_ble_eq_true rfl, cdD_isPoint, lkD_136, imD_isPoint, slD_isPoint, inD_isPoint, pmD_isPoint⟩, fun _ h => absurd h List.not_mem_nil⟩) XST_D_ok
def wD_point (f : Nat → Int32 → Int32 → Int32 → XH → XR) : List Value → List Value → XH → XR := fun vs st h => match vs, st with
  | [.ref a0, .int x1, .int x2, .int x3], [] => f a0 x1 x2 x3 h
  | _, _ => none
set_option maxRecDepth 100000 in
theorem eD_point (a0 : Nat) (x1 : Int32) (x2 : Int32) (x3 : Int32) (h : XH) : qD_point a0 x1 x2 x3 h = xrun BD_point (xfind []) 30 0 (List.zip [0, 1, 2, 3] [.ref a0, .int x1, .int x2, .int x3]) [] h := rfl
theorem tD_point : XTo cX8_point 4 RX8 1 2 43 0 [0, 1, 2, 3] (wD_point (qD_point)) := by
  refine XTo.run (B := BD_point) (cut := xfind []) kD_point (xcuts_ok (fun _ h => absurd h List.not_mem_nil)) 30 (fun vs st h r hr => ?_)
  unfold wD_point at hr
  split at hr
  · exact (eD_point _ _ _ _ _).symm.trans hr
  · cases hr
def FD_point : List Value → XH → XR := fun vs h => match vs with
  | [.ref a0, .int x1, .int x2, .int x3] => qD_point a0 x1 x2 x3 h
  | _ => none
theorem SD_point : XS yX8_point cX8_point 4 (some .int) (xrm 2 43) FD_point := by
  refine XS.of (own := RX8) (by decide) rfl (rk := 1) rfl (tD_point) (fun vs h r hr => ?_)
  unfold FD_point at hr
  split at hr
  · exact ⟨rfl, Nat.le_of_ble_eq_true rfl, hr⟩
  · cases hr
-- LineDiagramModel.point(IIZ)I
def rM_point : List (Nat × XRow) := [(0, (.aload_n 0, 1, 0, .null, [])),
  (1, (.iload_n 1, 2, 1, .null, [])),
  (2, (.iload_n 2, 3, 2, .null, [])),
  (3, (.invokevirtual 343, 6, 343, .null, [])),
  (6, (.ifCond .ne 5, 9, 11, .null, [])),
  (9, (.iconst (-1), 10, 0, .int (-1 : Int32), [])),
  (10, (.ireturn, 11, 0, .null, [])),
  (11, (.iload_n 3, 12, 3, .null, [])),
  (12, (.ifCond .eq 12, 15, 24, .null, [])),
  (15, (.aload_n 0, 16, 0, .null, [])),
  (16, (.iload_n 1, 17, 1, .null, [])),
  (17, (.iload_n 2, 18, 2, .null, [])),
  (18, (.invokevirtual 120, 21, 120, .null, [])),
  (21, (.goto 9, 24, 30, .null, [])),
  (24, (.aload_n 0, 25, 0, .null, [])),
  (25, (.iload_n 1, 26, 1, .null, [])),
  (26, (.iload_n 2, 27, 2, .null, [])),
  (27, (.invokevirtual 123, 30, 123, .null, [])),
  (30, (.ireturn, 31, 0, .null, []))]
def mM_point : List (Nat × XM) := [(120, (3, 1, some 9, FM_px)), (123, (3, 1, some 9, FM_py)), (343, (3, 1, some 9, FM_isPoint))]
abbrev BM_point : XB := (rM_point, XFT_M, mM_point, 1, XST_M)
set_option maxRecDepth 100000 in
theorem kM_point : XOK BM_point cX9_point 4 RX9 3 68 := xok_of (cps := []) (K := XKT_M) (by decide +kernel) XKT_M_ok (fun _ h => absurd h List.not_mem_nil) XFT_M_ok (List.forall_mem_cons.mpr ⟨⟨_, _, _, _, _, _, _, SM_px, rfl, rfl, Nat.le_of_ble_eq_true rfl, Nat.le_of_ble_eq_true rfl, cdM_px, lkM_120, imM_px, slM_px, inM_px, pmM_px⟩, List.forall_mem_cons.mpr ⟨⟨_, _, _, _, _, _, _, SM_py, rfl, rfl, Nat.le_of_ble_eq_true rfl, Nat.le_of_ble_eq_true rfl, cdM_py, lkM_123, imM_py, slM_py, inM_py, pmM_py⟩, List.forall_mem_cons.mpr ⟨⟨_, _, _, _, _, _, _, SM_isPoint, rfl, rfl, Nat.le_of_ble_eq_true rfl, Nat.le_of_ble_eq_true rfl, cdM_isPoint, lkM_343, imM_isPoint, slM_isPoint, inM_isPoint, pmM_isPoint⟩, fun _ h => absurd h List.not_mem_nil⟩⟩⟩) XST_M_ok
def wM_point (f : Nat → Int32 → Int32 → Int32 → XH → XR) : List Value → List Value → XH → XR := fun vs st h => match vs, st with
  | [.ref a0, .int x1, .int x2, .int x3], [] => f a0 x1 x2 x3 h
  | _, _ => none
set_option maxRecDepth 100000 in
theorem eM_point (a0 : Nat) (x1 : Int32) (x2 : Int32) (x3 : Int32) (h : XH) : qM_point a0 x1 x2 x3 h = xrun BM_point (xfind []) 22 0 (List.zip [0, 1, 2, 3] [.ref a0, .int x1, .int x2, .int x3]) [] h := rfl
theorem tM_point : XTo cX9_point 4 RX9 1 3 68 0 [0, 1, 2, 3] (wM_point (qM_point)) := by
  refine XTo.run (B := BM_point) (cut := xfind []) kM_point (xcuts_ok (fun _ h => absurd h List.not_mem_nil)) 22 (fun vs st h r hr => ?_)
  unfold wM_point at hr
  split at hr
  · exact (eM_point _ _ _ _ _).symm.trans hr
  · cases hr
def FM_point : List Value → XH → XR := fun vs h => match vs with
  | [.ref a0, .int x1, .int x2, .int x3] => qM_point a0 x1 x2 x3 h
  | _ => none
theorem SM_point : XS yX9_point cX9_point 4 (some .int) (xrm 3 68) FM_point := by
  refine XS.of (own := RX9) (by decide) rfl (rk := 1) rfl (tM_point) (fun vs h r hr => ?_)
  unfold FM_point at hr
  split at hr
  · exact ⟨rfl, Nat.le_of_ble_eq_true rfl, hr⟩
  · cases hr
-- LineDiagram.turn(II)I
def rD_turn : List (Nat × XRow) := [(0, (.aload_n 0, 1, 0, .null, [])),
  (1, (.iload_n 1, 2, 1, .null, [])),
  (2, (.iload_n 2, 3, 2, .null, [])),
  (3, (.invokevirtual 136, 6, 136, .null, [])),
  (6, (.ifCond .ne 5, 9, 11, .null, [])),
  (9, (.iconst (-1), 10, 0, .int (-1 : Int32), [])),
  (10, (.ireturn, 11, 0, .null, [])),
  (11, (.aload_n 0, 12, 0, .null, [])),
  (12, (.getfield 29, 15, 29, .null, [])),
  (15, (.getfield 123, 18, 123, .null, [])),
  (18, (.iload_n 1, 19, 1, .null, [])),
  (19, (.aaload, 20, 0, .null, [])),
  (20, (.astore_n 3, 21, 3, .null, [])),
  (21, (.iload_n 2, 22, 2, .null, [])),
  (22, (.ifCond .eq 13, 25, 35, .null, [])),
  (25, (.iload_n 2, 26, 2, .null, [])),
  (26, (.aload_n 3, 27, 3, .null, [])),
  (27, (.getfield 127, 30, 127, .null, [])),
  (30, (.iconst 1, 31, 0, .int (1 : Int32), [])),
  (31, (.isub, 32, 0, .null, [])),
  (32, (.if_icmp .ne 8, 35, 40, .null, [])),
  (35, (.bipush (-2), 37, 0, .int (-2 : Int32), [])),
  (37, (.goto 8, 40, 45, .null, [])),
  (40, (.aload_n 3, 41, 3, .null, [])),
  (41, (.iload_n 2, 42, 2, .null, [])),
  (42, (.invokevirtual 263, 45, 263, .null, [])),
  (45, (.ireturn, 46, 0, .null, []))]
def mD_turn : List (Nat × XM) := [(136, (3, 1, some 8, FD_isPoint)), (263, (2, 1, some 3, FLn_turnAt))]
abbrev BD_turn : XB := (rD_turn, XFT_D, mD_turn, 1, XST_D)
set_option maxRecDepth 100000 in
theorem kD_turn : XOK BD_turn cX8_turn 4 RX8 3 66 := xok_of (cps := []) (K := XKT_D) (by decide +kernel) XKT_D_ok (fun _ h => absurd h List.not_mem_nil) XFT_D_ok (List.forall_mem_cons.mpr ⟨⟨_, _, _, _, _, _, _, SD_isPoint, rfl, rfl, Nat.le_of_ble_eq_true rfl, Nat.le_of_ble_eq_true rfl, cdD_isPoint, lkD_136, imD_isPoint, slD_isPoint, inD_isPoint, pmD_isPoint⟩, List.forall_mem_cons.mpr ⟨⟨_, _, _, _, _, _, _, SLn_turnAt, rfl, rfl, Nat.le_of_ble_eq_true rfl, Nat.le_of_ble_eq_true rfl, cdLn_turnAt, lkD_263, imLn_turnAt, slLn_turnAt, inLn_turnAt, pmLn_turnAt⟩, fun _ h => absurd h List.not_mem_nil⟩⟩) XST_D_ok
def wD_turn (f : Nat → Int32 → Int32 → XH → XR) : List Value → List Value → XH → XR := fun vs st h => match vs, st with
  | [.ref a0, .int x1, .int x2], [] => f a0 x1 x2 h
  | _, _ => none
set_option maxRecDepth 100000 in
theorem eD_turn (a0 : Nat) (x1 : Int32) (x2 : Int32) (h : XH) : qD_turn a0 x1 x2 h = xrun BD_turn (xfind []) 30 0 (List.zip [0, 1, 2] [.ref a0, .int x1, .int x2]) [] h := rfl
theorem tD_turn : XTo cX8_turn 4 RX8 1 3 66 0 [0, 1, 2] (wD_turn (qD_turn)) := by
  refine XTo.run (B := BD_turn) (cut := xfind []) kD_turn (xcuts_ok (fun _ h => absurd h List.not_mem_nil)) 30 (fun vs st h r hr => ?_)
  unfold wD_turn at hr
  split at hr
  · exact (eD_turn _ _ _ _).symm.trans hr
  · cases hr
def FD_turn : List Value → XH → XR := fun vs h => match vs with
  | [.ref a0, .int x1, .int x2] => qD_turn a0 x1 x2 h
  | _ => none
theorem SD_turn : XS yX8_turn cX8_turn 4 (some .int) (xrm 3 66) FD_turn := by
  refine XS.of (own := RX8) (by decide) rfl (rk := 1) rfl (tD_turn) (fun vs h r hr => ?_)
  unfold FD_turn at hr
  split at hr
  · exact ⟨rfl, Nat.le_of_ble_eq_true rfl, hr⟩
  · cases hr
-- LineDiagramModel.turn(II)I
def rM_turn : List (Nat × XRow) := [(0, (.aload_n 0, 1, 0, .null, [])),
  (1, (.iload_n 1, 2, 1, .null, [])),
  (2, (.iload_n 2, 3, 2, .null, [])),
  (3, (.invokevirtual 343, 6, 343, .null, [])),
  (6, (.ifCond .ne 5, 9, 11, .null, [])),
  (9, (.iconst (-1), 10, 0, .int (-1 : Int32), [])),
  (10, (.ireturn, 11, 0, .null, [])),
  (11, (.iload_n 2, 12, 2, .null, [])),
  (12, (.ifCond .eq 15, 15, 27, .null, [])),
  (15, (.iload_n 2, 16, 2, .null, [])),
  (16, (.aload_n 0, 17, 0, .null, [])),
  (17, (.iload_n 1, 18, 1, .null, [])),
  (18, (.iconst 2, 19, 0, .int (2 : Int32), [])),
  (19, (.invokevirtual 88, 22, 88, .null, [])),
  (22, (.iconst 1, 23, 0, .int (1 : Int32), [])),
  (23, (.isub, 24, 0, .null, [])),
  (24, (.if_icmp .ne 8, 27, 32, .null, [])),
  (27, (.bipush (-2), 29, 0, .int (-2 : Int32), [])),
  (29, (.goto 9, 32, 38, .null, [])),
  (32, (.aload_n 0, 33, 0, .null, [])),
  (33, (.iload_n 1, 34, 1, .null, [])),
  (34, (.iload_n 2, 35, 2, .null, [])),
  (35, (.invokevirtual 139, 38, 139, .null, [])),
  (38, (.ireturn, 39, 0, .null, []))]
def mM_turn : List (Nat × XM) := [(88, (3, 1, some 9, FM_of)), (139, (3, 1, some 9, FM_turnAt)), (343, (3, 1, some 9, FM_isPoint))]
abbrev BM_turn : XB := (rM_turn, XFT_M, mM_turn, 1, XST_M)
set_option maxRecDepth 100000 in
theorem kM_turn : XOK BM_turn cX9_turn 3 RX9 4 90 := xok_of (cps := []) (K := XKT_M) (by decide +kernel) XKT_M_ok (fun _ h => absurd h List.not_mem_nil) XFT_M_ok (List.forall_mem_cons.mpr ⟨⟨_, _, _, _, _, _, _, SM_of, rfl, rfl, Nat.le_of_ble_eq_true rfl, Nat.le_of_ble_eq_true rfl, cdM_of, lkM_88, imM_of, slM_of, inM_of, pmM_of⟩, List.forall_mem_cons.mpr ⟨⟨_, _, _, _, _, _, _, SM_turnAt, rfl, rfl, Nat.le_of_ble_eq_true rfl, Nat.le_of_ble_eq_true rfl, cdM_turnAt, lkM_139, imM_turnAt, slM_turnAt, inM_turnAt, pmM_turnAt⟩, List.forall_mem_cons.mpr ⟨⟨_, _, _, _, _, _, _, SM_isPoint, rfl, rfl, Nat.le_of_ble_eq_true rfl, Nat.le_of_ble_eq_true rfl, cdM_isPoint, lkM_343, imM_isPoint, slM_isPoint, inM_isPoint, pmM_isPoint⟩, fun _ h => absurd h List.not_mem_nil⟩⟩⟩) XST_M_ok
def wM_turn (f : Nat → Int32 → Int32 → XH → XR) : List Value → List Value → XH → XR := fun vs st h => match vs, st with
  | [.ref a0, .int x1, .int x2], [] => f a0 x1 x2 h
  | _, _ => none
set_option maxRecDepth 100000 in
theorem eM_turn (a0 : Nat) (x1 : Int32) (x2 : Int32) (h : XH) : qM_turn a0 x1 x2 h = xrun BM_turn (xfind []) 27 0 (List.zip [0, 1, 2] [.ref a0, .int x1, .int x2]) [] h := rfl
theorem tM_turn : XTo cX9_turn 3 RX9 1 4 90 0 [0, 1, 2] (wM_turn (qM_turn)) := by
  refine XTo.run (B := BM_turn) (cut := xfind []) kM_turn (xcuts_ok (fun _ h => absurd h List.not_mem_nil)) 27 (fun vs st h r hr => ?_)
  unfold wM_turn at hr
  split at hr
  · exact (eM_turn _ _ _ _).symm.trans hr
  · cases hr
def FM_turn : List Value → XH → XR := fun vs h => match vs with
  | [.ref a0, .int x1, .int x2] => qM_turn a0 x1 x2 h
  | _ => none
theorem SM_turn : XS yX9_turn cX9_turn 3 (some .int) (xrm 4 90) FM_turn := by
  refine XS.of (own := RX9) (by decide) rfl (rk := 1) rfl (tM_turn) (fun vs h r hr => ?_)
  unfold FM_turn at hr
  split at hr
  · exact ⟨rfl, Nat.le_of_ble_eq_true rfl, hr⟩
  · cases hr
-- LineDiagram$Line.wayToStep(I)I
def rLn_wayToStep : List (Nat × XRow) := [(0, (.iconst 0, 1, 0, .int (0 : Int32), [])),
  (1, (.istore_n 2, 2, 2, .null, [])),
  (2, (.aload_n 0, 3, 0, .null, [])),
  (3, (.iconst 0, 4, 0, .int (0 : Int32), [])),
  (4, (.invokevirtual 53, 7, 53, .null, [])),
  (7, (.istore_n 3, 8, 3, .null, [])),
  (8, (.iload_n 3, 9, 3, .null, [])),
  (9, (.iload_n 1, 10, 1, .null, [])),
  (10, (.if_icmp .ge 27, 13, 37, .null, [])),
  (13, (.iload_n 2, 14, 2, .null, [])),
  (14, (.aload_n 0, 15, 0, .null, [])),
  (15, (.getfield 22, 18, 22, .null, [])),
  (18, (.iconst 2, 19, 0, .int (2 : Int32), [])),
  (19, (.isub, 20, 0, .null, [])),
  (20, (.if_icmp .ge 17, 23, 37, .null, [])),
  (23, (.iinc 2 1, 26, 2, .int (1 : Int32), [])),
  (26, (.iload_n 3, 27, 3, .null, [])),
  (27, (.aload_n 0, 28, 0, .null, [])),
  (28, (.iload_n 2, 29, 2, .null, [])),
  (29, (.invokevirtual 53, 32, 53, .null, [])),
  (32, (.iadd, 33, 0, .null, [])),
  (33, (.istore_n 3, 34, 3, .null, [])),
  (34, (.goto (-26), 37, 8, .null, [])),
  (37, (.aload_n 0, 38, 0, .null, [])),
  (38, (.iload_n 2, 39, 2, .null, [])),
  (39, (.invokevirtual 56, 42, 56, .null, [])),
  (42, (.ireturn, 43, 0, .null, []))]
def mLn_wayToStep : List (Nat × XM) := [(53, (2, 1, some 3, FLn_stepsOfRun)), (56, (2, 1, some 3, FLn_wayOfRun))]
abbrev BLn_wayToStep : XB := (rLn_wayToStep, XFT_Ln, mLn_wayToStep, 1, XST_Ln)
set_option maxRecDepth 100000 in
theorem kLn_wayToStep : XOK BLn_wayToStep cX3_wayToStep 4 RX3 2 44 := xok_of (cps := []) (K := XKT_Ln) (by decide +kernel) XKT_Ln_ok (fun _ h => absurd h List.not_mem_nil) XFT_Ln_ok (List.forall_mem_cons.mpr ⟨⟨_, _, _, _, _, _, _, SLn_stepsOfRun, rfl, rfl, Nat.le_of_ble_eq_true rfl, Nat.le_of_ble_eq_true rfl, cdLn_stepsOfRun, lkLn_53, imLn_stepsOfRun, slLn_stepsOfRun, inLn_stepsOfRun, pmLn_stepsOfRun⟩, List.forall_mem_cons.mpr ⟨⟨_, _, _, _, _, _, _, SLn_wayOfRun, rfl, rfl, Nat.le_of_ble_eq_true rfl, Nat.le_of_ble_eq_true rfl, cdLn_wayOfRun, lkLn_56, imLn_wayOfRun, slLn_wayOfRun, inLn_wayOfRun, pmLn_wayOfRun⟩, fun _ h => absurd h List.not_mem_nil⟩⟩) XST_Ln_ok
def wLn_wayToStep_37 (f : Nat → Int32 → XH → XR) : List Value → List Value → XH → XR := fun vs st h => match vs, st with
  | [.ref a0, .int x2], [] => f a0 x2 h
  | _, _ => none
def wLn_wayToStep_8 (f : Nat → Int32 → Int32 → Int32 → XH → XR) : List Value → List Value → XH → XR := fun vs st h => match vs, st with
  | [.ref a0, .int x1, .int x2, .int x3], [] => f a0 x1 x2 x3 h
  | _, _ => none
def wLn_wayToStep (f : Nat → Int32 → XH → XR) : List Value → List Value → XH → XR := fun vs st h => match vs, st with
  | [.ref a0, .int x1], [] => f a0 x1 h
  | _, _ => none
set_option maxRecDepth 100000 in
theorem eLn_wayToStep_37 (a0 : Nat) (x2 : Int32) (h : XH) : qLn_wayToStep_37 a0 x2 h = xrun BLn_wayToStep (xfind []) 30 37 (List.zip [0, 2] [.ref a0, .int x2]) [] h := rfl
theorem tLn_wayToStep_37 : XTo cX3_wayToStep 4 RX3 1 2 44 37 [0, 2] (wLn_wayToStep_37 (qLn_wayToStep_37)) := by
  refine XTo.run (B := BLn_wayToStep) (cut := xfind []) kLn_wayToStep (xcuts_ok (fun _ h => absurd h List.not_mem_nil)) 30 (fun vs st h r hr => ?_)
  unfold wLn_wayToStep_37 at hr
  split at hr
  · exact (eLn_wayToStep_37 _ _ _).symm.trans hr
  · cases hr
set_option maxRecDepth 100000 in
theorem eLn_wayToStep_8_b (k8 : Nat → Int32 → Int32 → Int32 → XH → XR) (a0 : Nat) (x1 : Int32) (x2 : Int32) (x3 : Int32) (h : XH) : qLn_wayToStep_8_b k8 a0 x1 x2 x3 h = xrun BLn_wayToStep (xfind [(8, ([0, 1, 2, 3], wLn_wayToStep_8 (k8))), (37, ([0, 2], wLn_wayToStep_37 (qLn_wayToStep_37)))]) 30 8 (List.zip [0, 1, 2, 3] [.ref a0, .int x1, .int x2, .int x3]) [] h := rfl
theorem tLn_wayToStep_8_b {k8 : Nat → Int32 → Int32 → Int32 → XH → XR} (hk8 : XTo cX3_wayToStep 4 RX3 1 2 44 8 [0, 1, 2, 3] (wLn_wayToStep_8 k8)) : XTo cX3_wayToStep 4 RX3 1 2 44 8 [0, 1, 2, 3] (wLn_wayToStep_8 (qLn_wayToStep_8_b k8)) := by
  refine XTo.run (B := BLn_wayToStep) (cut := xfind [(8, ([0, 1, 2, 3], wLn_wayToStep_8 (k8))), (37, ([0, 2], wLn_wayToStep_37 (qLn_wayToStep_37)))]) kLn_wayToStep (xcuts_ok (List.forall_mem_cons.mpr ⟨hk8, List.forall_mem_cons.mpr ⟨tLn_wayToStep_37, fun _ h => absurd h List.not_mem_nil⟩⟩)) 30 (fun vs st h r hr => ?_)
  unfold wLn_wayToStep_8 at hr
  split at hr
  · exact (eLn_wayToStep_8_b k8 _ _ _ _ _).symm.trans hr
  · cases hr
theorem tLn_wayToStep_8 : ∀ n : Nat, XTo cX3_wayToStep 4 RX3 1 2 44 8 [0, 1, 2, 3] (wLn_wayToStep_8 (qLn_wayToStep_8 n)) := by
  intro n
  induction n with
  | zero =>
    refine XTo.none fun vs st h => ?_
    unfold wLn_wayToStep_8
    split <;> rfl
  | succ n ih => exact tLn_wayToStep_8_b  ih
set_option maxRecDepth 100000 in
theorem eLn_wayToStep (a0 : Nat) (x1 : Int32) (h : XH) : qLn_wayToStep a0 x1 h = xrun BLn_wayToStep (xfind [(8, ([0, 1, 2, 3], wLn_wayToStep_8 (qLn_wayToStep_8 LF)))]) 30 0 (List.zip [0, 1] [.ref a0, .int x1]) [] h := rfl
theorem tLn_wayToStep : XTo cX3_wayToStep 4 RX3 1 2 44 0 [0, 1] (wLn_wayToStep (qLn_wayToStep)) := by
  refine XTo.run (B := BLn_wayToStep) (cut := xfind [(8, ([0, 1, 2, 3], wLn_wayToStep_8 (qLn_wayToStep_8 LF)))]) kLn_wayToStep (xcuts_ok (List.forall_mem_cons.mpr ⟨tLn_wayToStep_8 LF, fun _ h => absurd h List.not_mem_nil⟩)) 30 (fun vs st h r hr => ?_)
  unfold wLn_wayToStep at hr
  split at hr
  · exact (eLn_wayToStep _ _ _).symm.trans hr
  · cases hr
def FLn_wayToStep : List Value → XH → XR := fun vs h => match vs with
  | [.ref a0, .int x1] => qLn_wayToStep a0 x1 h
  | _ => none
theorem SLn_wayToStep : XS yX3_wayToStep cX3_wayToStep 4 (some .int) (xrm 2 44) FLn_wayToStep := by
  refine XS.of (own := RX3) (by decide) rfl (rk := 1) rfl (tLn_wayToStep) (fun vs h r hr => ?_)
  unfold FLn_wayToStep at hr
  split at hr
  · exact ⟨rfl, Nat.le_of_ble_eq_true rfl, hr⟩
  · cases hr
-- LineDiagram.station(III)I
def rD_station : List (Nat × XRow) := [(0, (.aload_n 0, 1, 0, .null, [])),
  (1, (.iload_n 1, 2, 1, .null, [])),
  (2, (.iload_n 2, 3, 2, .null, [])),
  (3, (.invokevirtual 151, 6, 151, .null, [])),
  (6, (.ifCond .ne 5, 9, 11, .null, [])),
  (9, (.iconst (-1), 10, 0, .int (-1 : Int32), [])),
  (10, (.ireturn, 11, 0, .null, [])),
  (11, (.aload_n 0, 12, 0, .null, [])),
  (12, (.getfield 29, 15, 29, .null, [])),
  (15, (.getfield 123, 18, 123, .null, [])),
  (18, (.iload_n 1, 19, 1, .null, [])),
  (19, (.aaload, 20, 0, .null, [])),
  (20, (.astore 4, 22, 4, .null, [])),
  (22, (.aload_n 0, 23, 0, .null, [])),
  (23, (.getfield 54, 26, 54, .null, [])),
  (26, (.iload_n 1, 27, 1, .null, [])),
  (27, (.iload_n 2, 28, 2, .null, [])),
  (28, (.invokevirtual 157, 31, 157, .null, [])),
  (31, (.istore 5, 33, 5, .null, [])),
  (33, (.iload_n 3, 34, 3, .null, [])),
  (34, (.tableswitch 97 0 5 #[38, 44, 50, 62, 79, 86], 72, 131, .null, [((0 : Int32), 72), ((1 : Int32), 78), ((2 : Int32), 84), ((3 : Int32), 96), ((4 : Int32), 113), ((5 : Int32), 120)])),
  (72, (.iload 5, 74, 5, .null, [])),
  (74, (.invokestatic 266, 77, 266, .null, [])),
  (77, (.ireturn, 78, 0, .null, [])),
  (78, (.iload 5, 80, 5, .null, [])),
  (80, (.invokestatic 269, 83, 269, .null, [])),
  (83, (.ireturn, 84, 0, .null, [])),
  (84, (.aload 4, 86, 4, .null, [])),
  (86, (.iload_n 2, 87, 2, .null, [])),
  (87, (.aload 4, 89, 4, .null, [])),
  (89, (.invokevirtual 239, 92, 239, .null, [])),
  (92, (.invokevirtual 272, 95, 272, .null, [])),
  (95, (.ireturn, 96, 0, .null, [])),
  (96, (.aload 4, 98, 4, .null, [])),
  (98, (.aload 4, 100, 4, .null, [])),
  (100, (.iload_n 2, 101, 2, .null, [])),
  (101, (.aload 4, 103, 4, .null, [])),
  (103, (.invokevirtual 239, 106, 239, .null, [])),
  (106, (.invokevirtual 272, 109, 272, .null, [])),
  (109, (.invokevirtual 275, 112, 275, .null, [])),
  (112, (.ireturn, 113, 0, .null, [])),
  (113, (.aload 4, 115, 4, .null, [])),
  (115, (.iload_n 2, 116, 2, .null, [])),
  (116, (.invokevirtual 278, 119, 278, .null, [])),
  (119, (.ireturn, 120, 0, .null, [])),
  (120, (.aload_n 0, 121, 0, .null, [])),
  (121, (.getfield 54, 124, 54, .null, [])),
  (124, (.getfield 281, 127, 281, .null, [])),
  (127, (.iload 5, 129, 5, .null, [])),
  (129, (.iaload, 130, 0, .null, [])),
  (130, (.ireturn, 131, 0, .null, [])),
  (131, (.iconst (-1), 132, 0, .int (-1 : Int32), [])),
  (132, (.ireturn, 133, 0, .null, []))]
def mD_station : List (Nat × XM) := [(151, (3, 1, some 8, FD_isStation)), (157, (3, 1, some 0, FB_stationCell)), (239, (1, 1, some 3, FLn_steps)), (266, (1, 1, none, FD_columnOf)), (269, (1, 1, none, FD_rowOf)), (272, (3, 1, some 3, FLn_stepOfStation)), (275, (2, 1, some 3, FLn_wayToStep)), (278, (2, 1, some 3, FLn_longOf))]
abbrev BD_station : XB := (rD_station, XFT_D, mD_station, 1, XST_D)
set_option maxRecDepth 100000 in
theorem kD_station : XOK BD_station cX8_station 6 RX8 3 67 := xok_of (cps := []) (K := XKT_D) (by decide +kernel) XKT_D_ok (fun _ h => absurd h List.not_mem_nil) XFT_D_ok (List.forall_mem_cons.mpr ⟨⟨_, _, _, _, _, _, _, SD_isStation, rfl, rfl, Nat.le_of_ble_eq_true rfl, Nat.le_of_ble_eq_true rfl, cdD_isStation, lkD_151, imD_isStation, slD_isStation, inD_isStation, pmD_isStation⟩, List.forall_mem_cons.mpr ⟨⟨_, _, _, _, _, _, _, SB_stationCell, rfl, rfl, Nat.le_of_ble_eq_true rfl, Nat.le_of_ble_eq_true rfl, cdB_stationCell, lkD_157, imB_stationCell, slB_stationCell, inB_stationCell, pmB_stationCell⟩, List.forall_mem_cons.mpr ⟨⟨_, _, _, _, _, _, _, SLn_steps, rfl, rfl, Nat.le_of_ble_eq_true rfl, Nat.le_of_ble_eq_true rfl, cdLn_steps, lkD_239, imLn_steps, slLn_steps, inLn_steps, pmLn_steps⟩, List.forall_mem_cons.mpr ⟨⟨_, _, _, _, _, _, SD_columnOf, Nat.le_of_ble_eq_true rfl, Nat.le_of_ble_eq_true rfl, cdD_columnOf, lkD_266, imD_columnOf, inD_columnOf, pmD_columnOf⟩, List.forall_mem_cons.mpr ⟨⟨_, _, _, _, _, _, SD_rowOf, Nat.le_of_ble_eq_true rfl, Nat.le_of_ble_eq_true rfl, cdD_rowOf, lkD_269, imD_rowOf, inD_rowOf, pmD_rowOf⟩, List.forall_mem_cons.mpr ⟨⟨_, _, _, _, _, _, _, SLn_stepOfStation, rfl, rfl, Nat.le_of_ble_eq_true rfl, Nat.le_of_ble_eq_true rfl, cdLn_stepOfStation, lkD_272, imLn_stepOfStation, slLn_stepOfStation, inLn_stepOfStation, pmLn_stepOfStation⟩, List.forall_mem_cons.mpr ⟨⟨_, _, _, _, _, _, _, SLn_wayToStep, rfl, rfl, Nat.le_of_ble_eq_true rfl, Nat.le_of_ble_eq_true rfl, cdLn_wayToStep, lkD_275, imLn_wayToStep, slLn_wayToStep, inLn_wayToStep, pmLn_wayToStep⟩, List.forall_mem_cons.mpr ⟨⟨_, _, _, _, _, _, _, SLn_longOf, rfl, rfl, Nat.le_of_ble_eq_true rfl, Nat.le_of_ble_eq_true rfl, cdLn_longOf, lkD_278, imLn_longOf, slLn_longOf, inLn_longOf, pmLn_longOf⟩, fun _ h => absurd h List.not_mem_nil⟩⟩⟩⟩⟩⟩⟩⟩) XST_D_ok
def wD_station (f : Nat → Int32 → Int32 → Int32 → XH → XR) : List Value → List Value → XH → XR := fun vs st h => match vs, st with
  | [.ref a0, .int x1, .int x2, .int x3], [] => f a0 x1 x2 x3 h
  | _, _ => none
set_option maxRecDepth 100000 in
theorem eD_station (a0 : Nat) (x1 : Int32) (x2 : Int32) (x3 : Int32) (h : XH) : qD_station a0 x1 x2 x3 h = xrun BD_station (xfind []) 56 0 (List.zip [0, 1, 2, 3] [.ref a0, .int x1, .int x2, .int x3]) [] h := rfl
theorem tD_station : XTo cX8_station 6 RX8 1 3 67 0 [0, 1, 2, 3] (wD_station (qD_station)) := by
  refine XTo.run (B := BD_station) (cut := xfind []) kD_station (xcuts_ok (fun _ h => absurd h List.not_mem_nil)) 56 (fun vs st h r hr => ?_)
  unfold wD_station at hr
  split at hr
  · exact (eD_station _ _ _ _ _).symm.trans hr
  · cases hr
def FD_station : List Value → XH → XR := fun vs h => match vs with
  | [.ref a0, .int x1, .int x2, .int x3] => qD_station a0 x1 x2 x3 h
  | _ => none
theorem SD_station : XS yX8_station cX8_station 6 (some .int) (xrm 3 67) FD_station := by
  refine XS.of (own := RX8) (by decide) rfl (rk := 1) rfl (tD_station) (fun vs h r hr => ?_)
  unfold FD_station at hr
  split at hr
  · exact ⟨rfl, Nat.le_of_ble_eq_true rfl, hr⟩
  · cases hr
