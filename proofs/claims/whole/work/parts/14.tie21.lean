-- LineDiagramModel.crossing(I)I
def rM_crossing : List (Nat × XRow) := [(0, (.iload_n 1, 1, 1, .null, [])),
  (1, (.ifCond .ge 5, 4, 6, .null, [])),
  (4, (.iconst (-1), 5, 0, .int (-1 : Int32), [])),
  (5, (.ireturn, 6, 0, .null, [])),
  (6, (.aload_n 0, 7, 0, .null, [])),
  (7, (.invokevirtual 380, 10, 380, .null, [])),
  (10, (.iload_n 1, 11, 1, .null, [])),
  (11, (.istore_n 2, 12, 2, .null, [])),
  (12, (.iconst 0, 13, 0, .int (0 : Int32), [])),
  (13, (.istore_n 3, 14, 3, .null, [])),
  (14, (.iload_n 3, 15, 3, .null, [])),
  (15, (.sipush 1600, 18, 0, .int (1600 : Int32), [])),
  (18, (.if_icmp .ge 29, 21, 47, .null, [])),
  (21, (.aload_n 0, 22, 0, .null, [])),
  (22, (.iload_n 3, 23, 3, .null, [])),
  (23, (.invokevirtual 398, 26, 398, .null, [])),
  (26, (.ifCond .eq 15, 29, 41, .null, [])),
  (29, (.iload_n 2, 30, 2, .null, [])),
  (30, (.ifCond .ne 8, 33, 38, .null, [])),
  (33, (.iload_n 3, 34, 3, .null, [])),
  (34, (.invokestatic 443, 37, 443, .null, [])),
  (37, (.ireturn, 38, 0, .null, [])),
  (38, (.iinc 2 (-1), 41, 2, .int (-1 : Int32), [])),
  (41, (.iinc 3 1, 44, 3, .int (1 : Int32), [])),
  (44, (.goto (-30), 47, 14, .null, [])),
  (47, (.bipush (-2), 49, 0, .int (-2 : Int32), [])),
  (49, (.ireturn, 50, 0, .null, []))]
def mM_crossing : List (Nat × XM) := [(380, (1, 0, some 9, FM_lays)), (398, (2, 1, some 9, FM_isCrossing)), (443, (1, 1, none, FM_told))]
abbrev BM_crossing : XB := (rM_crossing, XFT_M, mM_crossing, 1, XST_M)
set_option maxRecDepth 100000 in
theorem kM_crossing : XOK BM_crossing cX9_crossing 4 RX9 6 138 := xok_of (cps := []) (K := XKT_M) (by decide +kernel) XKT_M_ok (fun _ h => absurd h List.not_mem_nil) XFT_M_ok (List.forall_mem_cons.mpr ⟨⟨_, _, _, _, _, _, _, SM_lays, rfl, rfl, Nat.le_of_ble_eq_true rfl, Nat.le_of_ble_eq_true rfl, cdM_lays, lkM_380, imM_lays, slM_lays, inM_lays, pmM_lays⟩, List.forall_mem_cons.mpr ⟨⟨_, _, _, _, _, _, _, SM_isCrossing, rfl, rfl, Nat.le_of_ble_eq_true rfl, Nat.le_of_ble_eq_true rfl, cdM_isCrossing, lkM_398, imM_isCrossing, slM_isCrossing, inM_isCrossing, pmM_isCrossing⟩, List.forall_mem_cons.mpr ⟨⟨_, _, _, _, _, _, SM_told, Nat.le_of_ble_eq_true rfl, Nat.le_of_ble_eq_true rfl, cdM_told, lkM_443, imM_told, inM_told, pmM_told⟩, fun _ h => absurd h List.not_mem_nil⟩⟩⟩) XST_M_ok
def wM_crossing_33 (f : Int32 → XH → XR) : List Value → List Value → XH → XR := fun vs st h => match vs, st with
  | [.int x3], [] => f x3 h
  | _, _ => none
def wM_crossing_14 (f : Nat → Int32 → Int32 → XH → XR) : List Value → List Value → XH → XR := fun vs st h => match vs, st with
  | [.ref a0, .int x2, .int x3], [] => f a0 x2 x3 h
  | _, _ => none
def wM_crossing (f : Nat → Int32 → XH → XR) : List Value → List Value → XH → XR := fun vs st h => match vs, st with
  | [.ref a0, .int x1], [] => f a0 x1 h
  | _, _ => none
set_option maxRecDepth 100000 in
theorem eM_crossing_33 (x3 : Int32) (h : XH) : qM_crossing_33 x3 h = xrun BM_crossing (xfind []) 30 33 (List.zip [3] [.int x3]) [] h := rfl
theorem tM_crossing_33 : XTo cX9_crossing 4 RX9 1 6 138 33 [3] (wM_crossing_33 (qM_crossing_33)) := by
  refine XTo.run (B := BM_crossing) (cut := xfind []) kM_crossing (xcuts_ok (fun _ h => absurd h List.not_mem_nil)) 30 (fun vs st h r hr => ?_)
  unfold wM_crossing_33 at hr
  split at hr
  · exact (eM_crossing_33 _ _).symm.trans hr
  · cases hr
set_option maxRecDepth 100000 in
theorem eM_crossing_14_b (k14 : Nat → Int32 → Int32 → XH → XR) (a0 : Nat) (x2 : Int32) (x3 : Int32) (h : XH) : qM_crossing_14_b k14 a0 x2 x3 h = xrun BM_crossing (xfind [(14, ([0, 2, 3], wM_crossing_14 (k14))), (33, ([3], wM_crossing_33 (qM_crossing_33)))]) 30 14 (List.zip [0, 2, 3] [.ref a0, .int x2, .int x3]) [] h := rfl
theorem tM_crossing_14_b {k14 : Nat → Int32 → Int32 → XH → XR} (hk14 : XTo cX9_crossing 4 RX9 1 6 138 14 [0, 2, 3] (wM_crossing_14 k14)) : XTo cX9_crossing 4 RX9 1 6 138 14 [0, 2, 3] (wM_crossing_14 (qM_crossing_14_b k14)) := by
  refine XTo.run (B := BM_crossing) (cut := xfind [(14, ([0, 2, 3], wM_crossing_14 (k14))), (33, ([3], wM_crossing_33 (qM_crossing_33)))]) kM_crossing (xcuts_ok (List.forall_mem_cons.mpr ⟨hk14, List.forall_mem_cons.mpr ⟨tM_crossing_33, fun _ h => absurd h List.not_mem_nil⟩⟩)) 30 (fun vs st h r hr => ?_)
  unfold wM_crossing_14 at hr
  split at hr
  · exact (eM_crossing_14_b k14 _ _ _ _).symm.trans hr
  · cases hr
theorem tM_crossing_14 : ∀ n : Nat, XTo cX9_crossing 4 RX9 1 6 138 14 [0, 2, 3] (wM_crossing_14 (qM_crossing_14 n)) := by
  intro n
  induction n with
  | zero =>
    refine XTo.none fun vs st h => ?_
    unfold wM_crossing_14
    split <;> rfl
  | succ n ih => exact tM_crossing_14_b  ih
set_option maxRecDepth 100000 in
theorem eM_crossing (a0 : Nat) (x1 : Int32) (h : XH) : qM_crossing a0 x1 h = xrun BM_crossing (xfind [(14, ([0, 2, 3], wM_crossing_14 (qM_crossing_14 LF)))]) 30 0 (List.zip [0, 1] [.ref a0, .int x1]) [] h := rfl
theorem tM_crossing : XTo cX9_crossing 4 RX9 1 6 138 0 [0, 1] (wM_crossing (qM_crossing)) := by
  refine XTo.run (B := BM_crossing) (cut := xfind [(14, ([0, 2, 3], wM_crossing_14 (qM_crossing_14 LF)))]) kM_crossing (xcuts_ok (List.forall_mem_cons.mpr ⟨tM_crossing_14 LF, fun _ h => absurd h List.not_mem_nil⟩)) 30 (fun vs st h r hr => ?_)
  unfold wM_crossing at hr
  split at hr
  · exact (eM_crossing _ _ _).symm.trans hr
  · cases hr
def FM_crossing : List Value → XH → XR := fun vs h => match vs with
  | [.ref a0, .int x1] => qM_crossing a0 x1 h
  | _ => none
theorem SM_crossing : XS yX9_crossing cX9_crossing 4 (some .int) (xrm 6 138) FM_crossing := by
  refine XS.of (own := RX9) (by decide) rfl (rk := 1) rfl (tM_crossing) (fun vs h r hr => ?_)
  unfold FM_crossing at hr
  split at hr
  · exact ⟨rfl, Nat.le_of_ble_eq_true rfl, hr⟩
  · cases hr
-- LineDiagram$Travel.reach(LLineDiagram$Plan;LLineDiagram$Board;II)V
def rTv_reach : List (Nat × XRow) := [(0, (.iconst 0, 1, 0, .int (0 : Int32), [])),
  (1, (.istore 5, 3, 5, .null, [])),
  (3, (.iload 5, 5, 5, .null, [])),
  (5, (.aload_n 1, 6, 1, .null, [])),
  (6, (.getfield 29, 9, 29, .null, [])),
  (9, (.if_icmp .ge 60, 12, 69, .null, [])),
  (12, (.iconst 0, 13, 0, .int (0 : Int32), [])),
  (13, (.istore 6, 15, 6, .null, [])),
  (15, (.iload 6, 17, 6, .null, [])),
  (17, (.aload_n 1, 18, 1, .null, [])),
  (18, (.getfield 35, 21, 35, .null, [])),
  (21, (.iload 5, 23, 5, .null, [])),
  (23, (.aaload, 24, 0, .null, [])),
  (24, (.getfield 39, 27, 39, .null, [])),
  (27, (.if_icmp .ge 36, 30, 63, .null, [])),
  (30, (.aload_n 2, 31, 2, .null, [])),
  (31, (.iload 5, 33, 5, .null, [])),
  (33, (.iload 6, 35, 6, .null, [])),
  (35, (.invokevirtual 48, 38, 48, .null, [])),
  (38, (.iload_n 3, 39, 3, .null, [])),
  (39, (.if_icmp .ne 18, 42, 57, .null, [])),
  (42, (.aload_n 0, 43, 0, .null, [])),
  (43, (.getfield 9, 46, 9, .null, [])),
  (46, (.iload 5, 48, 5, .null, [])),
  (48, (.bipush 20, 50, 0, .int (20 : Int32), [])),
  (50, (.imul, 51, 0, .null, [])),
  (51, (.iload 6, 53, 6, .null, [])),
  (53, (.iadd, 54, 0, .null, [])),
  (54, (.iload 4, 56, 4, .null, [])),
  (56, (.iastore, 57, 0, .null, [])),
  (57, (.iinc 6 1, 60, 6, .int (1 : Int32), [])),
  (60, (.goto (-45), 63, 15, .null, [])),
  (63, (.iinc 5 1, 66, 5, .int (1 : Int32), [])),
  (66, (.goto (-63), 69, 3, .null, [])),
  (69, (.return_, 70, 0, .null, []))]
def mTv_reach : List (Nat × XM) := [(48, (3, 1, some 0, FB_stationCell))]
abbrev BTv_reach : XB := (rTv_reach, XFT_Tv, mTv_reach, 0, XST_Tv)
set_option maxRecDepth 100000 in
theorem kTv_reach : XOK BTv_reach cX7_reach 7 RX7 1 23 := xok_of (cps := []) (K := XKT_Tv) (by decide +kernel) XKT_Tv_ok (fun _ h => absurd h List.not_mem_nil) XFT_Tv_ok (List.forall_mem_cons.mpr ⟨⟨_, _, _, _, _, _, _, SB_stationCell, rfl, rfl, Nat.le_of_ble_eq_true rfl, Nat.le_of_ble_eq_true rfl, cdB_stationCell, lkTv_48, imB_stationCell, slB_stationCell, inB_stationCell, pmB_stationCell⟩, fun _ h => absurd h List.not_mem_nil⟩) XST_Tv_ok
def wTv_reach_15 (f : Nat → Nat → Nat → Int32 → Int32 → Int32 → Int32 → XH → XR) : List Value → List Value → XH → XR := fun vs st h => match vs, st with
  | [.ref a0, .ref a1, .ref a2, .int x3, .int x4, .int x5, .int x6], [] => f a0 a1 a2 x3 x4 x5 x6 h
  | _, _ => none
def wTv_reach_3 (f : Nat → Nat → Nat → Int32 → Int32 → Int32 → XH → XR) : List Value → List Value → XH → XR := fun vs st h => match vs, st with
  | [.ref a0, .ref a1, .ref a2, .int x3, .int x4, .int x5], [] => f a0 a1 a2 x3 x4 x5 h
  | _, _ => none
def wTv_reach (f : Nat → Nat → Nat → Int32 → Int32 → XH → XR) : List Value → List Value → XH → XR := fun vs st h => match vs, st with
  | [.ref a0, .ref a1, .ref a2, .int x3, .int x4], [] => f a0 a1 a2 x3 x4 h
  | _, _ => none
set_option maxRecDepth 100000 in
theorem eTv_reach_15_b (k3 : Nat → Nat → Nat → Int32 → Int32 → Int32 → XH → XR) (k15 : Nat → Nat → Nat → Int32 → Int32 → Int32 → Int32 → XH → XR) (a0 : Nat) (a1 : Nat) (a2 : Nat) (x3 : Int32) (x4 : Int32) (x5 : Int32) (x6 : Int32) (h : XH) : qTv_reach_15_b k3 k15 a0 a1 a2 x3 x4 x5 x6 h = xrun BTv_reach (xfind [(3, ([0, 1, 2, 3, 4, 5], wTv_reach_3 (k3))), (15, ([0, 1, 2, 3, 4, 5, 6], wTv_reach_15 (k15)))]) 38 15 (List.zip [0, 1, 2, 3, 4, 5, 6] [.ref a0, .ref a1, .ref a2, .int x3, .int x4, .int x5, .int x6]) [] h := rfl
theorem tTv_reach_15_b {k3 : Nat → Nat → Nat → Int32 → Int32 → Int32 → XH → XR} {k15 : Nat → Nat → Nat → Int32 → Int32 → Int32 → Int32 → XH → XR} (hk3 : XTo cX7_reach 7 RX7 0 1 23 3 [0, 1, 2, 3, 4, 5] (wTv_reach_3 k3)) (hk15 : XTo cX7_reach 7 RX7 0 1 23 15 [0, 1, 2, 3, 4, 5, 6] (wTv_reach_15 k15)) : XTo cX7_reach 7 RX7 0 1 23 15 [0, 1, 2, 3, 4, 5, 6] (wTv_reach_15 (qTv_reach_15_b k3 k15)) := by
  refine XTo.run (B := BTv_reach) (cut := xfind [(3, ([0, 1, 2, 3, 4, 5], wTv_reach_3 (k3))), (15, ([0, 1, 2, 3, 4, 5, 6], wTv_reach_15 (k15)))]) kTv_reach (xcuts_ok (List.forall_mem_cons.mpr ⟨hk3, List.forall_mem_cons.mpr ⟨hk15, fun _ h => absurd h List.not_mem_nil⟩⟩)) 38 (fun vs st h r hr => ?_)
  unfold wTv_reach_15 at hr
  split at hr
  · exact (eTv_reach_15_b k3 k15 _ _ _ _ _ _ _ _).symm.trans hr
  · cases hr
theorem tTv_reach_15 {k3 : Nat → Nat → Nat → Int32 → Int32 → Int32 → XH → XR} (hk3 : XTo cX7_reach 7 RX7 0 1 23 3 [0, 1, 2, 3, 4, 5] (wTv_reach_3 k3)) : ∀ n : Nat, XTo cX7_reach 7 RX7 0 1 23 15 [0, 1, 2, 3, 4, 5, 6] (wTv_reach_15 (qTv_reach_15 k3 n)) := by
  intro n
  induction n with
  | zero =>
    refine XTo.none fun vs st h => ?_
    unfold wTv_reach_15
    split <;> rfl
  | succ n ih => exact tTv_reach_15_b hk3 ih
set_option maxRecDepth 100000 in
theorem eTv_reach_3_b (k3 : Nat → Nat → Nat → Int32 → Int32 → Int32 → XH → XR) (a0 : Nat) (a1 : Nat) (a2 : Nat) (x3 : Int32) (x4 : Int32) (x5 : Int32) (h : XH) : qTv_reach_3_b k3 a0 a1 a2 x3 x4 x5 h = xrun BTv_reach (xfind [(15, ([0, 1, 2, 3, 4, 5, 6], wTv_reach_15 (qTv_reach_15 k3 LF)))]) 38 3 (List.zip [0, 1, 2, 3, 4, 5] [.ref a0, .ref a1, .ref a2, .int x3, .int x4, .int x5]) [] h := rfl
theorem tTv_reach_3_b {k3 : Nat → Nat → Nat → Int32 → Int32 → Int32 → XH → XR} (hk3 : XTo cX7_reach 7 RX7 0 1 23 3 [0, 1, 2, 3, 4, 5] (wTv_reach_3 k3)) : XTo cX7_reach 7 RX7 0 1 23 3 [0, 1, 2, 3, 4, 5] (wTv_reach_3 (qTv_reach_3_b k3)) := by
  refine XTo.run (B := BTv_reach) (cut := xfind [(15, ([0, 1, 2, 3, 4, 5, 6], wTv_reach_15 (qTv_reach_15 k3 LF)))]) kTv_reach (xcuts_ok (List.forall_mem_cons.mpr ⟨tTv_reach_15 hk3 LF, fun _ h => absurd h List.not_mem_nil⟩)) 38 (fun vs st h r hr => ?_)
  unfold wTv_reach_3 at hr
  split at hr
  · exact (eTv_reach_3_b k3 _ _ _ _ _ _ _).symm.trans hr
  · cases hr
theorem tTv_reach_3 : ∀ n : Nat, XTo cX7_reach 7 RX7 0 1 23 3 [0, 1, 2, 3, 4, 5] (wTv_reach_3 (qTv_reach_3 n)) := by
  intro n
  induction n with
  | zero =>
    refine XTo.none fun vs st h => ?_
    unfold wTv_reach_3
    split <;> rfl
  | succ n ih => exact tTv_reach_3_b  ih
set_option maxRecDepth 100000 in
theorem eTv_reach (a0 : Nat) (a1 : Nat) (a2 : Nat) (x3 : Int32) (x4 : Int32) (h : XH) : qTv_reach a0 a1 a2 x3 x4 h = xrun BTv_reach (xfind [(3, ([0, 1, 2, 3, 4, 5], wTv_reach_3 (qTv_reach_3 LF)))]) 38 0 (List.zip [0, 1, 2, 3, 4] [.ref a0, .ref a1, .ref a2, .int x3, .int x4]) [] h := rfl
theorem tTv_reach : XTo cX7_reach 7 RX7 0 1 23 0 [0, 1, 2, 3, 4] (wTv_reach (qTv_reach)) := by
  refine XTo.run (B := BTv_reach) (cut := xfind [(3, ([0, 1, 2, 3, 4, 5], wTv_reach_3 (qTv_reach_3 LF)))]) kTv_reach (xcuts_ok (List.forall_mem_cons.mpr ⟨tTv_reach_3 LF, fun _ h => absurd h List.not_mem_nil⟩)) 38 (fun vs st h r hr => ?_)
  unfold wTv_reach at hr
  split at hr
  · exact (eTv_reach _ _ _ _ _ _).symm.trans hr
  · cases hr
def FTv_reach : List Value → XH → XR := fun vs h => match vs with
  | [.ref a0, .ref a1, .ref a2, .int x3, .int x4] => qTv_reach a0 a1 a2 x3 x4 h
  | _ => none
theorem STv_reach : XS yX7_reach cX7_reach 7 none (xrm 1 23) FTv_reach := by
  refine XS.of (own := RX7) (by decide) rfl (rk := 0) rfl (tTv_reach) (fun vs h r hr => ?_)
  unfold FTv_reach at hr
  split at hr
  · exact ⟨rfl, Nat.le_of_ble_eq_true rfl, hr⟩
  · cases hr
-- LineDiagram$Travel.reachStation(LLineDiagram$Plan;LLineDiagram$Board;III)Z
def rTv_reachStation : List (Nat × XRow) := [(0, (.aload_n 0, 1, 0, .null, [])),
  (1, (.getfield 9, 4, 9, .null, [])),
  (4, (.iload_n 3, 5, 3, .null, [])),
  (5, (.bipush 20, 7, 0, .int (20 : Int32), [])),
  (7, (.imul, 8, 0, .null, [])),
  (8, (.iload 4, 10, 4, .null, [])),
  (10, (.iadd, 11, 0, .null, [])),
  (11, (.iaload, 12, 0, .null, [])),
  (12, (.ifCond .lt 5, 15, 17, .null, [])),
  (15, (.iconst 0, 16, 0, .int (0 : Int32), [])),
  (16, (.ireturn, 17, 0, .null, [])),
  (17, (.aload_n 0, 18, 0, .null, [])),
  (18, (.aload_n 1, 19, 1, .null, [])),
  (19, (.aload_n 2, 20, 2, .null, [])),
  (20, (.aload_n 2, 21, 2, .null, [])),
  (21, (.iload_n 3, 22, 3, .null, [])),
  (22, (.iload 4, 24, 4, .null, [])),
  (24, (.invokevirtual 48, 27, 48, .null, [])),
  (27, (.iload 5, 29, 5, .null, [])),
  (29, (.invokevirtual 21, 32, 21, .null, [])),
  (32, (.iconst 1, 33, 0, .int (1 : Int32), [])),
  (33, (.ireturn, 34, 0, .null, []))]
def mTv_reachStation : List (Nat × XM) := [(21, (5, 0, some 7, FTv_reach)), (48, (3, 1, some 0, FB_stationCell))]
abbrev BTv_reachStation : XB := (rTv_reachStation, XFT_Tv, mTv_reachStation, 6, XST_Tv)
set_option maxRecDepth 100000 in
theorem kTv_reachStation : XOK BTv_reachStation cX7_reachStation 6 RX7 2 49 := xok_of (cps := []) (K := XKT_Tv) (by decide +kernel) XKT_Tv_ok (fun _ h => absurd h List.not_mem_nil) XFT_Tv_ok (List.forall_mem_cons.mpr ⟨⟨_, _, _, _, _, _, _, STv_reach, rfl, rfl, Nat.le_of_ble_eq_true rfl, Nat.le_of_ble_eq_true rfl, cdTv_reach, lkTv_21, imTv_reach, slTv_reach, inTv_reach, pmTv_reach⟩, List.forall_mem_cons.mpr ⟨⟨_, _, _, _, _, _, _, SB_stationCell, rfl, rfl, Nat.le_of_ble_eq_true rfl, Nat.le_of_ble_eq_true rfl, cdB_stationCell, lkTv_48, imB_stationCell, slB_stationCell, inB_stationCell, pmB_stationCell⟩, fun _ h => absurd h List.not_mem_nil⟩⟩) XST_Tv_ok
def wTv_reachStation (f : Nat → Nat → Nat → Int32 → Int32 → Int32 → XH → XR) : List Value → List Value → XH → XR := fun vs st h => match vs, st with
  | [.ref a0, .ref a1, .ref a2, .int x3, .int x4, .int x5], [] => f a0 a1 a2 x3 x4 x5 h
  | _, _ => none
set_option maxRecDepth 100000 in
theorem eTv_reachStation (a0 : Nat) (a1 : Nat) (a2 : Nat) (x3 : Int32) (x4 : Int32) (x5 : Int32) (h : XH) : qTv_reachStation a0 a1 a2 x3 x4 x5 h = xrun BTv_reachStation (xfind []) 25 0 (List.zip [0, 1, 2, 3, 4, 5] [.ref a0, .ref a1, .ref a2, .int x3, .int x4, .int x5]) [] h := rfl
theorem tTv_reachStation : XTo cX7_reachStation 6 RX7 6 2 49 0 [0, 1, 2, 3, 4, 5] (wTv_reachStation (qTv_reachStation)) := by
  refine XTo.run (B := BTv_reachStation) (cut := xfind []) kTv_reachStation (xcuts_ok (fun _ h => absurd h List.not_mem_nil)) 25 (fun vs st h r hr => ?_)
  unfold wTv_reachStation at hr
  split at hr
  · exact (eTv_reachStation _ _ _ _ _ _ _).symm.trans hr
  · cases hr
def FTv_reachStation : List Value → XH → XR := fun vs h => match vs with
  | [.ref a0, .ref a1, .ref a2, .int x3, .int x4, .int x5] => qTv_reachStation a0 a1 a2 x3 x4 x5 h
  | _ => none
theorem STv_reachStation : XS yX7_reachStation cX7_reachStation 6 (some .boolean) (xrm 2 49) FTv_reachStation := by
  refine XS.of (own := RX7) (by decide) rfl (rk := 6) rfl (tTv_reachStation) (fun vs h r hr => ?_)
  unfold FTv_reachStation at hr
  split at hr
  · exact ⟨rfl, Nat.le_of_ble_eq_true rfl, hr⟩
  · cases hr
-- LineDiagram$Travel.rideOn(LLineDiagram$Plan;LLineDiagram$Board;I)Z
def rTv_rideOn : List (Nat × XRow) := [(0, (.iconst 0, 1, 0, .int (0 : Int32), [])),
  (1, (.istore 4, 3, 4, .null, [])),
  (3, (.iconst 0, 4, 0, .int (0 : Int32), [])),
  (4, (.istore 5, 6, 5, .null, [])),
  (6, (.iload 5, 8, 5, .null, [])),
  (8, (.aload_n 1, 9, 1, .null, [])),
  (9, (.getfield 29, 12, 29, .null, [])),
  (12, (.if_icmp .ge 140, 15, 152, .null, [])),
  (15, (.aload_n 1, 16, 1, .null, [])),
  (16, (.getfield 35, 19, 35, .null, [])),
  (19, (.iload 5, 21, 5, .null, [])),
  (21, (.aaload, 22, 0, .null, [])),
  (22, (.getfield 39, 25, 39, .null, [])),
  (25, (.istore 6, 27, 6, .null, [])),
  (27, (.iconst 0, 28, 0, .int (0 : Int32), [])),
  (28, (.istore 7, 30, 7, .null, [])),
  (30, (.iload 7, 32, 7, .null, [])),
  (32, (.iload 6, 34, 6, .null, [])),
  (34, (.if_icmp .ge 112, 37, 146, .null, [])),
  (37, (.aload_n 0, 38, 0, .null, [])),
  (38, (.getfield 9, 41, 9, .null, [])),
  (41, (.iload 5, 43, 5, .null, [])),
  (43, (.bipush 20, 45, 0, .int (20 : Int32), [])),
  (45, (.imul, 46, 0, .null, [])),
  (46, (.iload 7, 48, 7, .null, [])),
  (48, (.iadd, 49, 0, .null, [])),
  (49, (.iaload, 50, 0, .null, [])),
  (50, (.iload_n 3, 51, 3, .null, [])),
  (51, (.if_icmp .ne 89, 54, 140, .null, [])),
  (54, (.iload 7, 56, 7, .null, [])),
  (56, (.ifCond .le 25, 59, 81, .null, [])),
  (59, (.aload_n 0, 60, 0, .null, [])),
  (60, (.aload_n 1, 61, 1, .null, [])),
  (61, (.aload_n 2, 62, 2, .null, [])),
  (62, (.iload 5, 64, 5, .null, [])),
  (64, (.iload 7, 66, 7, .null, [])),
  (66, (.iconst 1, 67, 0, .int (1 : Int32), [])),
  (67, (.isub, 68, 0, .null, [])),
  (68, (.iload_n 3, 69, 3, .null, [])),
  (69, (.iconst 1, 70, 0, .int (1 : Int32), [])),
  (70, (.iadd, 71, 0, .null, [])),
  (71, (.invokevirtual 44, 74, 44, .null, [])),
  (74, (.ifCond .eq 7, 77, 81, .null, [])),
  (77, (.iconst 1, 78, 0, .int (1 : Int32), [])),
  (78, (.goto 4, 81, 82, .null, [])),
  (81, (.iconst 0, 82, 0, .int (0 : Int32), [])),
  (82, (.istore 8, 84, 8, .null, [])),
  (84, (.iload 7, 86, 7, .null, [])),
  (86, (.iconst 1, 87, 0, .int (1 : Int32), [])),
  (87, (.iadd, 88, 0, .null, [])),
  (88, (.iload 6, 90, 6, .null, [])),
  (90, (.if_icmp .ge 25, 93, 115, .null, [])),
  (93, (.aload_n 0, 94, 0, .null, [])),
  (94, (.aload_n 1, 95, 1, .null, [])),
  (95, (.aload_n 2, 96, 2, .null, [])),
  (96, (.iload 5, 98, 5, .null, [])),
  (98, (.iload 7, 100, 7, .null, [])),
  (100, (.iconst 1, 101, 0, .int (1 : Int32), [])),
  (101, (.iadd, 102, 0, .null, [])),
  (102, (.iload_n 3, 103, 3, .null, [])),
  (103, (.iconst 1, 104, 0, .int (1 : Int32), [])),
  (104, (.iadd, 105, 0, .null, [])),
  (105, (.invokevirtual 44, 108, 44, .null, [])),
  (108, (.ifCond .eq 7, 111, 115, .null, [])),
  (111, (.iconst 1, 112, 0, .int (1 : Int32), [])),
  (112, (.goto 4, 115, 116, .null, [])),
  (115, (.iconst 0, 116, 0, .int (0 : Int32), [])),
  (116, (.istore 9, 118, 9, .null, [])),
  (118, (.iload 4, 120, 4, .null, [])),
  (120, (.ifCond .ne 13, 123, 133, .null, [])),
  (123, (.iload 8, 125, 8, .null, [])),
  (125, (.ifCond .ne 8, 128, 133, .null, [])),
  (128, (.iload 9, 130, 9, .null, [])),
  (130, (.ifCond .eq 7, 133, 137, .null, [])),
  (133, (.iconst 1, 134, 0, .int (1 : Int32), [])),
  (134, (.goto 4, 137, 138, .null, [])),
  (137, (.iconst 0, 138, 0, .int (0 : Int32), [])),
  (138, (.istore 4, 140, 4, .null, [])),
  (140, (.iinc 7 1, 143, 7, .int (1 : Int32), [])),
  (143, (.goto (-113), 146, 30, .null, [])),
  (146, (.iinc 5 1, 149, 5, .int (1 : Int32), [])),
  (149, (.goto (-143), 152, 6, .null, [])),
  (152, (.iload 4, 154, 4, .null, [])),
  (154, (.ireturn, 155, 0, .null, []))]
def mTv_rideOn : List (Nat × XM) := [(44, (6, 1, some 7, FTv_reachStation))]
abbrev BTv_rideOn : XB := (rTv_rideOn, XFT_Tv, mTv_rideOn, 6, XST_Tv)
set_option maxRecDepth 100000 in
theorem kTv_rideOn : XOK BTv_rideOn cX7_rideOn 10 RX7 3 74 := xok_of (cps := []) (K := XKT_Tv) (by decide +kernel) XKT_Tv_ok (fun _ h => absurd h List.not_mem_nil) XFT_Tv_ok (List.forall_mem_cons.mpr ⟨⟨_, _, _, _, _, _, _, STv_reachStation, rfl, rfl, Nat.le_of_ble_eq_true rfl, Nat.le_of_ble_eq_true rfl, cdTv_reachStation, lkTv_44, imTv_reachStation, slTv_reachStation, inTv_reachStation, pmTv_reachStation⟩, fun _ h => absurd h List.not_mem_nil⟩) XST_Tv_ok
def wTv_rideOn_133 (f : Nat → Nat → Nat → Int32 → Int32 → Int32 → Int32 → XH → XR) : List Value → List Value → XH → XR := fun vs st h => match vs, st with
  | [.ref a0, .ref a1, .ref a2, .int x3, .int x5, .int x6, .int x7], [] => f a0 a1 a2 x3 x5 x6 x7 h
  | _, _ => none
def wTv_rideOn_116 (f : Nat → Nat → Nat → Int32 → Int32 → Int32 → Int32 → Int32 → Int32 → Int32 → XH → XR) : List Value → List Value → XH → XR := fun vs st h => match vs, st with
  | [.ref a0, .ref a1, .ref a2, .int x3, .int x4, .int x5, .int x6, .int x7, .int x8], [.int s0] => f a0 a1 a2 x3 x4 x5 x6 x7 x8 s0 h
  | _, _ => none
def wTv_rideOn_115 (f : Nat → Nat → Nat → Int32 → Int32 → Int32 → Int32 → Int32 → Int32 → XH → XR) : List Value → List Value → XH → XR := fun vs st h => match vs, st with
  | [.ref a0, .ref a1, .ref a2, .int x3, .int x4, .int x5, .int x6, .int x7, .int x8], [] => f a0 a1 a2 x3 x4 x5 x6 x7 x8 h
  | _, _ => none
def wTv_rideOn_82 (f : Nat → Nat → Nat → Int32 → Int32 → Int32 → Int32 → Int32 → Int32 → XH → XR) : List Value → List Value → XH → XR := fun vs st h => match vs, st with
  | [.ref a0, .ref a1, .ref a2, .int x3, .int x4, .int x5, .int x6, .int x7], [.int s0] => f a0 a1 a2 x3 x4 x5 x6 x7 s0 h
  | _, _ => none
def wTv_rideOn_81 (f : Nat → Nat → Nat → Int32 → Int32 → Int32 → Int32 → Int32 → XH → XR) : List Value → List Value → XH → XR := fun vs st h => match vs, st with
  | [.ref a0, .ref a1, .ref a2, .int x3, .int x4, .int x5, .int x6, .int x7], [] => f a0 a1 a2 x3 x4 x5 x6 x7 h
  | _, _ => none
def wTv_rideOn_30 (f : Nat → Nat → Nat → Int32 → Int32 → Int32 → Int32 → Int32 → XH → XR) : List Value → List Value → XH → XR := fun vs st h => match vs, st with
  | [.ref a0, .ref a1, .ref a2, .int x3, .int x4, .int x5, .int x6, .int x7], [] => f a0 a1 a2 x3 x4 x5 x6 x7 h
  | _, _ => none
def wTv_rideOn_6 (f : Nat → Nat → Nat → Int32 → Int32 → Int32 → XH → XR) : List Value → List Value → XH → XR := fun vs st h => match vs, st with
  | [.ref a0, .ref a1, .ref a2, .int x3, .int x4, .int x5], [] => f a0 a1 a2 x3 x4 x5 h
  | _, _ => none
def wTv_rideOn (f : Nat → Nat → Nat → Int32 → XH → XR) : List Value → List Value → XH → XR := fun vs st h => match vs, st with
  | [.ref a0, .ref a1, .ref a2, .int x3], [] => f a0 a1 a2 x3 h
  | _, _ => none
set_option maxRecDepth 100000 in
theorem eTv_rideOn_133 (k6 : Nat → Nat → Nat → Int32 → Int32 → Int32 → XH → XR) (k30 : Nat → Nat → Nat → Int32 → Int32 → Int32 → Int32 → Int32 → XH → XR) (a0 : Nat) (a1 : Nat) (a2 : Nat) (x3 : Int32) (x5 : Int32) (x6 : Int32) (x7 : Int32) (h : XH) : qTv_rideOn_133 k6 k30 a0 a1 a2 x3 x5 x6 x7 h = xrun BTv_rideOn (xfind [(30, ([0, 1, 2, 3, 4, 5, 6, 7], wTv_rideOn_30 (k30)))]) 87 133 (List.zip [0, 1, 2, 3, 5, 6, 7] [.ref a0, .ref a1, .ref a2, .int x3, .int x5, .int x6, .int x7]) [] h := rfl
theorem tTv_rideOn_133 {k6 : Nat → Nat → Nat → Int32 → Int32 → Int32 → XH → XR} {k30 : Nat → Nat → Nat → Int32 → Int32 → Int32 → Int32 → Int32 → XH → XR} (hk6 : XTo cX7_rideOn 10 RX7 6 3 74 6 [0, 1, 2, 3, 4, 5] (wTv_rideOn_6 k6)) (hk30 : XTo cX7_rideOn 10 RX7 6 3 74 30 [0, 1, 2, 3, 4, 5, 6, 7] (wTv_rideOn_30 k30)) : XTo cX7_rideOn 10 RX7 6 3 74 133 [0, 1, 2, 3, 5, 6, 7] (wTv_rideOn_133 (qTv_rideOn_133 k6 k30)) := by
  refine XTo.run (B := BTv_rideOn) (cut := xfind [(30, ([0, 1, 2, 3, 4, 5, 6, 7], wTv_rideOn_30 (k30)))]) kTv_rideOn (xcuts_ok (List.forall_mem_cons.mpr ⟨hk30, fun _ h => absurd h List.not_mem_nil⟩)) 87 (fun vs st h r hr => ?_)
  unfold wTv_rideOn_133 at hr
  split at hr
  · exact (eTv_rideOn_133 k6 k30 _ _ _ _ _ _ _ _).symm.trans hr
  · cases hr
set_option maxRecDepth 100000 in
theorem eTv_rideOn_116 (k6 : Nat → Nat → Nat → Int32 → Int32 → Int32 → XH → XR) (k30 : Nat → Nat → Nat → Int32 → Int32 → Int32 → Int32 → Int32 → XH → XR) (a0 : Nat) (a1 : Nat) (a2 : Nat) (x3 : Int32) (x4 : Int32) (x5 : Int32) (x6 : Int32) (x7 : Int32) (x8 : Int32) (s0 : Int32) (h : XH) : qTv_rideOn_116 k6 k30 a0 a1 a2 x3 x4 x5 x6 x7 x8 s0 h = xrun BTv_rideOn (xfind [(30, ([0, 1, 2, 3, 4, 5, 6, 7], wTv_rideOn_30 (k30))), (133, ([0, 1, 2, 3, 5, 6, 7], wTv_rideOn_133 (qTv_rideOn_133 k6 k30)))]) 87 116 (List.zip [0, 1, 2, 3, 4, 5, 6, 7, 8] [.ref a0, .ref a1, .ref a2, .int x3, .int x4, .int x5, .int x6, .int x7, .int x8]) [.int s0] h := rfl
theorem tTv_rideOn_116 {k6 : Nat → Nat → Nat → Int32 → Int32 → Int32 → XH → XR} {k30 : Nat → Nat → Nat → Int32 → Int32 → Int32 → Int32 → Int32 → XH → XR} (hk6 : XTo cX7_rideOn 10 RX7 6 3 74 6 [0, 1, 2, 3, 4, 5] (wTv_rideOn_6 k6)) (hk30 : XTo cX7_rideOn 10 RX7 6 3 74 30 [0, 1, 2, 3, 4, 5, 6, 7] (wTv_rideOn_30 k30)) : XTo cX7_rideOn 10 RX7 6 3 74 116 [0, 1, 2, 3, 4, 5, 6, 7, 8] (wTv_rideOn_116 (qTv_rideOn_116 k6 k30)) := by
  refine XTo.run (B := BTv_rideOn) (cut := xfind [(30, ([0, 1, 2, 3, 4, 5, 6, 7], wTv_rideOn_30 (k30))), (133, ([0, 1, 2, 3, 5, 6, 7], wTv_rideOn_133 (qTv_rideOn_133 k6 k30)))]) kTv_rideOn (xcuts_ok (List.forall_mem_cons.mpr ⟨hk30, List.forall_mem_cons.mpr ⟨tTv_rideOn_133 hk6 hk30, fun _ h => absurd h List.not_mem_nil⟩⟩)) 87 (fun vs st h r hr => ?_)
  unfold wTv_rideOn_116 at hr
  split at hr
  · exact (eTv_rideOn_116 k6 k30 _ _ _ _ _ _ _ _ _ _ _).symm.trans hr
  · cases hr
set_option maxRecDepth 100000 in
theorem eTv_rideOn_115 (k6 : Nat → Nat → Nat → Int32 → Int32 → Int32 → XH → XR) (k30 : Nat → Nat → Nat → Int32 → Int32 → Int32 → Int32 → Int32 → XH → XR) (a0 : Nat) (a1 : Nat) (a2 : Nat) (x3 : Int32) (x4 : Int32) (x5 : Int32) (x6 : Int32) (x7 : Int32) (x8 : Int32) (h : XH) : qTv_rideOn_115 k6 k30 a0 a1 a2 x3 x4 x5 x6 x7 x8 h = xrun BTv_rideOn (xfind [(116, ([0, 1, 2, 3, 4, 5, 6, 7, 8], wTv_rideOn_116 (qTv_rideOn_116 k6 k30)))]) 87 115 (List.zip [0, 1, 2, 3, 4, 5, 6, 7, 8] [.ref a0, .ref a1, .ref a2, .int x3, .int x4, .int x5, .int x6, .int x7, .int x8]) [] h := rfl
theorem tTv_rideOn_115 {k6 : Nat → Nat → Nat → Int32 → Int32 → Int32 → XH → XR} {k30 : Nat → Nat → Nat → Int32 → Int32 → Int32 → Int32 → Int32 → XH → XR} (hk6 : XTo cX7_rideOn 10 RX7 6 3 74 6 [0, 1, 2, 3, 4, 5] (wTv_rideOn_6 k6)) (hk30 : XTo cX7_rideOn 10 RX7 6 3 74 30 [0, 1, 2, 3, 4, 5, 6, 7] (wTv_rideOn_30 k30)) : XTo cX7_rideOn 10 RX7 6 3 74 115 [0, 1, 2, 3, 4, 5, 6, 7, 8] (wTv_rideOn_115 (qTv_rideOn_115 k6 k30)) := by
  refine XTo.run (B := BTv_rideOn) (cut := xfind [(116, ([0, 1, 2, 3, 4, 5, 6, 7, 8], wTv_rideOn_116 (qTv_rideOn_116 k6 k30)))]) kTv_rideOn (xcuts_ok (List.forall_mem_cons.mpr ⟨tTv_rideOn_116 hk6 hk30, fun _ h => absurd h List.not_mem_nil⟩)) 87 (fun vs st h r hr => ?_)
  unfold wTv_rideOn_115 at hr
  split at hr
  · exact (eTv_rideOn_115 k6 k30 _ _ _ _ _ _ _ _ _ _).symm.trans hr
  · cases hr
set_option maxRecDepth 100000 in
theorem eTv_rideOn_82 (k6 : Nat → Nat → Nat → Int32 → Int32 → Int32 → XH → XR) (k30 : Nat → Nat → Nat → Int32 → Int32 → Int32 → Int32 → Int32 → XH → XR) (a0 : Nat) (a1 : Nat) (a2 : Nat) (x3 : Int32) (x4 : Int32) (x5 : Int32) (x6 : Int32) (x7 : Int32) (s0 : Int32) (h : XH) : qTv_rideOn_82 k6 k30 a0 a1 a2 x3 x4 x5 x6 x7 s0 h = xrun BTv_rideOn (xfind [(115, ([0, 1, 2, 3, 4, 5, 6, 7, 8], wTv_rideOn_115 (qTv_rideOn_115 k6 k30))), (116, ([0, 1, 2, 3, 4, 5, 6, 7, 8], wTv_rideOn_116 (qTv_rideOn_116 k6 k30)))]) 87 82 (List.zip [0, 1, 2, 3, 4, 5, 6, 7] [.ref a0, .ref a1, .ref a2, .int x3, .int x4, .int x5, .int x6, .int x7]) [.int s0] h := rfl
theorem tTv_rideOn_82 {k6 : Nat → Nat → Nat → Int32 → Int32 → Int32 → XH → XR} {k30 : Nat → Nat → Nat → Int32 → Int32 → Int32 → Int32 → Int32 → XH → XR} (hk6 : XTo cX7_rideOn 10 RX7 6 3 74 6 [0, 1, 2, 3, 4, 5] (wTv_rideOn_6 k6)) (hk30 : XTo cX7_rideOn 10 RX7 6 3 74 30 [0, 1, 2, 3, 4, 5, 6, 7] (wTv_rideOn_30 k30)) : XTo cX7_rideOn 10 RX7 6 3 74 82 [0, 1, 2, 3, 4, 5, 6, 7] (wTv_rideOn_82 (qTv_rideOn_82 k6 k30)) := by
  refine XTo.run (B := BTv_rideOn) (cut := xfind [(115, ([0, 1, 2, 3, 4, 5, 6, 7, 8], wTv_rideOn_115 (qTv_rideOn_115 k6 k30))), (116, ([0, 1, 2, 3, 4, 5, 6, 7, 8], wTv_rideOn_116 (qTv_rideOn_116 k6 k30)))]) kTv_rideOn (xcuts_ok (List.forall_mem_cons.mpr ⟨tTv_rideOn_115 hk6 hk30, List.forall_mem_cons.mpr ⟨tTv_rideOn_116 hk6 hk30, fun _ h => absurd h List.not_mem_nil⟩⟩)) 87 (fun vs st h r hr => ?_)
  unfold wTv_rideOn_82 at hr
  split at hr
  · exact (eTv_rideOn_82 k6 k30 _ _ _ _ _ _ _ _ _ _).symm.trans hr
  · cases hr
set_option maxRecDepth 100000 in
theorem eTv_rideOn_81 (k6 : Nat → Nat → Nat → Int32 → Int32 → Int32 → XH → XR) (k30 : Nat → Nat → Nat → Int32 → Int32 → Int32 → Int32 → Int32 → XH → XR) (a0 : Nat) (a1 : Nat) (a2 : Nat) (x3 : Int32) (x4 : Int32) (x5 : Int32) (x6 : Int32) (x7 : Int32) (h : XH) : qTv_rideOn_81 k6 k30 a0 a1 a2 x3 x4 x5 x6 x7 h = xrun BTv_rideOn (xfind [(82, ([0, 1, 2, 3, 4, 5, 6, 7], wTv_rideOn_82 (qTv_rideOn_82 k6 k30)))]) 87 81 (List.zip [0, 1, 2, 3, 4, 5, 6, 7] [.ref a0, .ref a1, .ref a2, .int x3, .int x4, .int x5, .int x6, .int x7]) [] h := rfl
theorem tTv_rideOn_81 {k6 : Nat → Nat → Nat → Int32 → Int32 → Int32 → XH → XR} {k30 : Nat → Nat → Nat → Int32 → Int32 → Int32 → Int32 → Int32 → XH → XR} (hk6 : XTo cX7_rideOn 10 RX7 6 3 74 6 [0, 1, 2, 3, 4, 5] (wTv_rideOn_6 k6)) (hk30 : XTo cX7_rideOn 10 RX7 6 3 74 30 [0, 1, 2, 3, 4, 5, 6, 7] (wTv_rideOn_30 k30)) : XTo cX7_rideOn 10 RX7 6 3 74 81 [0, 1, 2, 3, 4, 5, 6, 7] (wTv_rideOn_81 (qTv_rideOn_81 k6 k30)) := by
  refine XTo.run (B := BTv_rideOn) (cut := xfind [(82, ([0, 1, 2, 3, 4, 5, 6, 7], wTv_rideOn_82 (qTv_rideOn_82 k6 k30)))]) kTv_rideOn (xcuts_ok (List.forall_mem_cons.mpr ⟨tTv_rideOn_82 hk6 hk30, fun _ h => absurd h List.not_mem_nil⟩)) 87 (fun vs st h r hr => ?_)
  unfold wTv_rideOn_81 at hr
  split at hr
  · exact (eTv_rideOn_81 k6 k30 _ _ _ _ _ _ _ _ _).symm.trans hr
  · cases hr
set_option maxRecDepth 100000 in
theorem eTv_rideOn_30_b (k6 : Nat → Nat → Nat → Int32 → Int32 → Int32 → XH → XR) (k30 : Nat → Nat → Nat → Int32 → Int32 → Int32 → Int32 → Int32 → XH → XR) (a0 : Nat) (a1 : Nat) (a2 : Nat) (x3 : Int32) (x4 : Int32) (x5 : Int32) (x6 : Int32) (x7 : Int32) (h : XH) : qTv_rideOn_30_b k6 k30 a0 a1 a2 x3 x4 x5 x6 x7 h = xrun BTv_rideOn (xfind [(6, ([0, 1, 2, 3, 4, 5], wTv_rideOn_6 (k6))), (30, ([0, 1, 2, 3, 4, 5, 6, 7], wTv_rideOn_30 (k30))), (81, ([0, 1, 2, 3, 4, 5, 6, 7], wTv_rideOn_81 (qTv_rideOn_81 k6 k30))), (82, ([0, 1, 2, 3, 4, 5, 6, 7], wTv_rideOn_82 (qTv_rideOn_82 k6 k30)))]) 87 30 (List.zip [0, 1, 2, 3, 4, 5, 6, 7] [.ref a0, .ref a1, .ref a2, .int x3, .int x4, .int x5, .int x6, .int x7]) [] h := rfl
theorem tTv_rideOn_30_b {k6 : Nat → Nat → Nat → Int32 → Int32 → Int32 → XH → XR} {k30 : Nat → Nat → Nat → Int32 → Int32 → Int32 → Int32 → Int32 → XH → XR} (hk6 : XTo cX7_rideOn 10 RX7 6 3 74 6 [0, 1, 2, 3, 4, 5] (wTv_rideOn_6 k6)) (hk30 : XTo cX7_rideOn 10 RX7 6 3 74 30 [0, 1, 2, 3, 4, 5, 6, 7] (wTv_rideOn_30 k30)) : XTo cX7_rideOn 10 RX7 6 3 74 30 [0, 1, 2, 3, 4, 5, 6, 7] (wTv_rideOn_30 (qTv_rideOn_30_b k6 k30)) := by
  refine XTo.run (B := BTv_rideOn) (cut := xfind [(6, ([0, 1, 2, 3, 4, 5], wTv_rideOn_6 (k6))), (30, ([0, 1, 2, 3, 4, 5, 6, 7], wTv_rideOn_30 (k30))), (81, ([0, 1, 2, 3, 4, 5, 6, 7], wTv_rideOn_81 (qTv_rideOn_81 k6 k30))), (82, ([0, 1, 2, 3, 4, 5, 6, 7], wTv_rideOn_82 (qTv_rideOn_82 k6 k30)))]) kTv_rideOn (xcuts_ok (List.forall_mem_cons.mpr ⟨hk6, List.forall_mem_cons.mpr ⟨hk30, List.forall_mem_cons.mpr ⟨tTv_rideOn_81 hk6 hk30, List.forall_mem_cons.mpr ⟨tTv_rideOn_82 hk6 hk30, fun _ h => absurd h List.not_mem_nil⟩⟩⟩⟩)) 87 (fun vs st h r hr => ?_)
  unfold wTv_rideOn_30 at hr
  split at hr
  · exact (eTv_rideOn_30_b k6 k30 _ _ _ _ _ _ _ _ _).symm.trans hr
  · cases hr
theorem tTv_rideOn_30 {k6 : Nat → Nat → Nat → Int32 → Int32 → Int32 → XH → XR} (hk6 : XTo cX7_rideOn 10 RX7 6 3 74 6 [0, 1, 2, 3, 4, 5] (wTv_rideOn_6 k6)) : ∀ n : Nat, XTo cX7_rideOn 10 RX7 6 3 74 30 [0, 1, 2, 3, 4, 5, 6, 7] (wTv_rideOn_30 (qTv_rideOn_30 k6 n)) := by
  intro n
  induction n with
  | zero =>
    refine XTo.none fun vs st h => ?_
    unfold wTv_rideOn_30
    split <;> rfl
  | succ n ih => exact tTv_rideOn_30_b hk6 ih
set_option maxRecDepth 100000 in
theorem eTv_rideOn_6_b (k6 : Nat → Nat → Nat → Int32 → Int32 → Int32 → XH → XR) (a0 : Nat) (a1 : Nat) (a2 : Nat) (x3 : Int32) (x4 : Int32) (x5 : Int32) (h : XH) : qTv_rideOn_6_b k6 a0 a1 a2 x3 x4 x5 h = xrun BTv_rideOn (xfind [(30, ([0, 1, 2, 3, 4, 5, 6, 7], wTv_rideOn_30 (qTv_rideOn_30 k6 LF)))]) 87 6 (List.zip [0, 1, 2, 3, 4, 5] [.ref a0, .ref a1, .ref a2, .int x3, .int x4, .int x5]) [] h := rfl
theorem tTv_rideOn_6_b {k6 : Nat → Nat → Nat → Int32 → Int32 → Int32 → XH → XR} (hk6 : XTo cX7_rideOn 10 RX7 6 3 74 6 [0, 1, 2, 3, 4, 5] (wTv_rideOn_6 k6)) : XTo cX7_rideOn 10 RX7 6 3 74 6 [0, 1, 2, 3, 4, 5] (wTv_rideOn_6 (qTv_rideOn_6_b k6)) := by
  refine XTo.run (B := BTv_rideOn) (cut := xfind [(30, ([0, 1, 2, 3, 4, 5, 6, 7], wTv_rideOn_30 (qTv_rideOn_30 k6 LF)))]) kTv_rideOn (xcuts_ok (List.forall_mem_cons.mpr ⟨tTv_rideOn_30 hk6 LF, fun _ h => absurd h List.not_mem_nil⟩)) 87 (fun vs st h r hr => ?_)
  unfold wTv_rideOn_6 at hr
  split at hr
  · exact (eTv_rideOn_6_b k6 _ _ _ _ _ _ _).symm.trans hr
  · cases hr
theorem tTv_rideOn_6 : ∀ n : Nat, XTo cX7_rideOn 10 RX7 6 3 74 6 [0, 1, 2, 3, 4, 5] (wTv_rideOn_6 (qTv_rideOn_6 n)) := by
  intro n
  induction n with
  | zero =>
    refine XTo.none fun vs st h => ?_
    unfold wTv_rideOn_6
    split <;> rfl
  | succ n ih => exact tTv_rideOn_6_b  ih
set_option maxRecDepth 100000 in
theorem eTv_rideOn (a0 : Nat) (a1 : Nat) (a2 : Nat) (x3 : Int32) (h : XH) : qTv_rideOn a0 a1 a2 x3 h = xrun BTv_rideOn (xfind [(6, ([0, 1, 2, 3, 4, 5], wTv_rideOn_6 (qTv_rideOn_6 LF)))]) 87 0 (List.zip [0, 1, 2, 3] [.ref a0, .ref a1, .ref a2, .int x3]) [] h := rfl
theorem tTv_rideOn : XTo cX7_rideOn 10 RX7 6 3 74 0 [0, 1, 2, 3] (wTv_rideOn (qTv_rideOn)) := by
  refine XTo.run (B := BTv_rideOn) (cut := xfind [(6, ([0, 1, 2, 3, 4, 5], wTv_rideOn_6 (qTv_rideOn_6 LF)))]) kTv_rideOn (xcuts_ok (List.forall_mem_cons.mpr ⟨tTv_rideOn_6 LF, fun _ h => absurd h List.not_mem_nil⟩)) 87 (fun vs st h r hr => ?_)
  unfold wTv_rideOn at hr
  split at hr
  · exact (eTv_rideOn _ _ _ _ _).symm.trans hr
  · cases hr
def FTv_rideOn : List Value → XH → XR := fun vs h => match vs with
  | [.ref a0, .ref a1, .ref a2, .int x3] => qTv_rideOn a0 a1 a2 x3 h
  | _ => none
theorem STv_rideOn : XS yX7_rideOn cX7_rideOn 10 (some .boolean) (xrm 3 74) FTv_rideOn := by
  refine XS.of (own := RX7) (by decide) rfl (rk := 6) rfl (tTv_rideOn) (fun vs h r hr => ?_)
  unfold FTv_rideOn at hr
  split at hr
  · exact ⟨rfl, Nat.le_of_ble_eq_true rfl, hr⟩
  · cases hr
-- LineDiagram$Travel.leastRides(LLineDiagram$Plan;LLineDiagram$Board;III)I
def rTv_leastRides : List (Nat × XRow) := [(0, (.iload 4, 2, 4, .null, [])),
  (2, (.bipush 20, 4, 0, .int (20 : Int32), [])),
  (4, (.imul, 5, 0, .null, [])),
  (5, (.iload 5, 7, 5, .null, [])),
  (7, (.iadd, 8, 0, .null, [])),
  (8, (.istore 6, 10, 6, .null, [])),
  (10, (.iload 6, 12, 6, .null, [])),
  (12, (.ifCond .lt 13, 15, 25, .null, [])),
  (15, (.iload 6, 17, 6, .null, [])),
  (17, (.aload_n 0, 18, 0, .null, [])),
  (18, (.getfield 9, 21, 9, .null, [])),
  (21, (.arraylength, 22, 0, .null, [])),
  (22, (.if_icmp .lt 6, 25, 28, .null, [])),
  (25, (.bipush (-2), 27, 0, .int (-2 : Int32), [])),
  (27, (.ireturn, 28, 0, .null, [])),
  (28, (.aload_n 0, 29, 0, .null, [])),
  (29, (.getfield 9, 32, 9, .null, [])),
  (32, (.iconst (-1), 33, 0, .int (-1 : Int32), [])),
  (33, (.invokestatic 15, 36, 15, .null, [])),
  (36, (.aload_n 0, 37, 0, .null, [])),
  (37, (.aload_n 1, 38, 1, .null, [])),
  (38, (.aload_n 2, 39, 2, .null, [])),
  (39, (.iload_n 3, 40, 3, .null, [])),
  (40, (.iconst 0, 41, 0, .int (0 : Int32), [])),
  (41, (.invokevirtual 21, 44, 21, .null, [])),
  (44, (.iconst 1, 45, 0, .int (1 : Int32), [])),
  (45, (.istore 7, 47, 7, .null, [])),
  (47, (.iconst 0, 48, 0, .int (0 : Int32), [])),
  (48, (.istore 8, 50, 8, .null, [])),
  (50, (.iload 7, 52, 7, .null, [])),
  (52, (.ifCond .eq 37, 55, 89, .null, [])),
  (55, (.aload_n 0, 56, 0, .null, [])),
  (56, (.getfield 9, 59, 9, .null, [])),
  (59, (.iload 6, 61, 6, .null, [])),
  (61, (.iaload, 62, 0, .null, [])),
  (62, (.ifCond .ge 27, 65, 89, .null, [])),
  (65, (.iload 8, 67, 8, .null, [])),
  (67, (.sipush 160, 70, 0, .int (160 : Int32), [])),
  (70, (.if_icmp .ge 19, 73, 89, .null, [])),
  (73, (.aload_n 0, 74, 0, .null, [])),
  (74, (.aload_n 1, 75, 1, .null, [])),
  (75, (.aload_n 2, 76, 2, .null, [])),
  (76, (.iload 8, 78, 8, .null, [])),
  (78, (.invokevirtual 25, 81, 25, .null, [])),
  (81, (.istore 7, 83, 7, .null, [])),
  (83, (.iinc 8 1, 86, 8, .int (1 : Int32), [])),
  (86, (.goto (-36), 89, 50, .null, [])),
  (89, (.aload_n 0, 90, 0, .null, [])),
  (90, (.getfield 9, 93, 9, .null, [])),
  (93, (.iload 6, 95, 6, .null, [])),
  (95, (.iaload, 96, 0, .null, [])),
  (96, (.ifCond .ge 8, 99, 104, .null, [])),
  (99, (.bipush (-2), 101, 0, .int (-2 : Int32), [])),
  (101, (.goto 10, 104, 111, .null, [])),
  (104, (.aload_n 0, 105, 0, .null, [])),
  (105, (.getfield 9, 108, 9, .null, [])),
  (108, (.iload 6, 110, 6, .null, [])),
  (110, (.iaload, 111, 0, .null, [])),
  (111, (.ireturn, 112, 0, .null, []))]
def mTv_leastRides : List (Nat × XM) := [(15, (2, 0, none, FJA_fill)), (21, (5, 0, some 7, FTv_reach)), (25, (4, 1, some 7, FTv_rideOn))]
abbrev BTv_leastRides : XB := (rTv_leastRides, XFT_Tv, mTv_leastRides, 1, XST_Tv)
set_option maxRecDepth 100000 in
theorem kTv_leastRides : XOK BTv_leastRides cX7_leastRides 9 RX7 4 103 := xok_of (cps := []) (K := XKT_Tv) (by decide +kernel) XKT_Tv_ok (fun _ h => absurd h List.not_mem_nil) XFT_Tv_ok (List.forall_mem_cons.mpr ⟨⟨_, _, _, _, _, _, SJA_fill, Nat.le_of_ble_eq_true rfl, Nat.le_of_ble_eq_true rfl, cdJA_fill, lkTv_15, imJA_fill, inJA_fill, pmJA_fill⟩, List.forall_mem_cons.mpr ⟨⟨_, _, _, _, _, _, _, STv_reach, rfl, rfl, Nat.le_of_ble_eq_true rfl, Nat.le_of_ble_eq_true rfl, cdTv_reach, lkTv_21, imTv_reach, slTv_reach, inTv_reach, pmTv_reach⟩, List.forall_mem_cons.mpr ⟨⟨_, _, _, _, _, _, _, STv_rideOn, rfl, rfl, Nat.le_of_ble_eq_true rfl, Nat.le_of_ble_eq_true rfl, cdTv_rideOn, lkTv_25, imTv_rideOn, slTv_rideOn, inTv_rideOn, pmTv_rideOn⟩, fun _ h => absurd h List.not_mem_nil⟩⟩⟩) XST_Tv_ok
def wTv_leastRides_89 (f : Nat → Int32 → XH → XR) : List Value → List Value → XH → XR := fun vs st h => match vs, st with
  | [.ref a0, .int x6], [] => f a0 x6 h
  | _, _ => none
def wTv_leastRides_50 (f : Nat → Nat → Nat → Int32 → Int32 → Int32 → XH → XR) : List Value → List Value → XH → XR := fun vs st h => match vs, st with
  | [.ref a0, .ref a1, .ref a2, .int x6, .int x7, .int x8], [] => f a0 a1 a2 x6 x7 x8 h
  | _, _ => none
def wTv_leastRides (f : Nat → Nat → Nat → Int32 → Int32 → Int32 → XH → XR) : List Value → List Value → XH → XR := fun vs st h => match vs, st with
  | [.ref a0, .ref a1, .ref a2, .int x3, .int x4, .int x5], [] => f a0 a1 a2 x3 x4 x5 h
  | _, _ => none
set_option maxRecDepth 100000 in
theorem eTv_leastRides_89 (a0 : Nat) (x6 : Int32) (h : XH) : qTv_leastRides_89 a0 x6 h = xrun BTv_leastRides (xfind []) 62 89 (List.zip [0, 6] [.ref a0, .int x6]) [] h := rfl
theorem tTv_leastRides_89 : XTo cX7_leastRides 9 RX7 1 4 103 89 [0, 6] (wTv_leastRides_89 (qTv_leastRides_89)) := by
  refine XTo.run (B := BTv_leastRides) (cut := xfind []) kTv_leastRides (xcuts_ok (fun _ h => absurd h List.not_mem_nil)) 62 (fun vs st h r hr => ?_)
  unfold wTv_leastRides_89 at hr
  split at hr
  · exact (eTv_leastRides_89 _ _ _).symm.trans hr
  · cases hr
set_option maxRecDepth 100000 in
theorem eTv_leastRides_50_b (k50 : Nat → Nat → Nat → Int32 → Int32 → Int32 → XH → XR) (a0 : Nat) (a1 : Nat) (a2 : Nat) (x6 : Int32) (x7 : Int32) (x8 : Int32) (h : XH) : qTv_leastRides_50_b k50 a0 a1 a2 x6 x7 x8 h = xrun BTv_leastRides (xfind [(50, ([0, 1, 2, 6, 7, 8], wTv_leastRides_50 (k50))), (89, ([0, 6], wTv_leastRides_89 (qTv_leastRides_89)))]) 62 50 (List.zip [0, 1, 2, 6, 7, 8] [.ref a0, .ref a1, .ref a2, .int x6, .int x7, .int x8]) [] h := rfl
theorem tTv_leastRides_50_b {k50 : Nat → Nat → Nat → Int32 → Int32 → Int32 → XH → XR} (hk50 : XTo cX7_leastRides 9 RX7 1 4 103 50 [0, 1, 2, 6, 7, 8] (wTv_leastRides_50 k50)) : XTo cX7_leastRides 9 RX7 1 4 103 50 [0, 1, 2, 6, 7, 8] (wTv_leastRides_50 (qTv_leastRides_50_b k50)) := by
  refine XTo.run (B := BTv_leastRides) (cut := xfind [(50, ([0, 1, 2, 6, 7, 8], wTv_leastRides_50 (k50))), (89, ([0, 6], wTv_leastRides_89 (qTv_leastRides_89)))]) kTv_leastRides (xcuts_ok (List.forall_mem_cons.mpr ⟨hk50, List.forall_mem_cons.mpr ⟨tTv_leastRides_89, fun _ h => absurd h List.not_mem_nil⟩⟩)) 62 (fun vs st h r hr => ?_)
  unfold wTv_leastRides_50 at hr
  split at hr
  · exact (eTv_leastRides_50_b k50 _ _ _ _ _ _ _).symm.trans hr
  · cases hr
theorem tTv_leastRides_50 : ∀ n : Nat, XTo cX7_leastRides 9 RX7 1 4 103 50 [0, 1, 2, 6, 7, 8] (wTv_leastRides_50 (qTv_leastRides_50 n)) := by
  intro n
  induction n with
  | zero =>
    refine XTo.none fun vs st h => ?_
    unfold wTv_leastRides_50
    split <;> rfl
  | succ n ih => exact tTv_leastRides_50_b  ih
set_option maxRecDepth 100000 in
theorem eTv_leastRides (a0 : Nat) (a1 : Nat) (a2 : Nat) (x3 : Int32) (x4 : Int32) (x5 : Int32) (h : XH) : qTv_leastRides a0 a1 a2 x3 x4 x5 h = xrun BTv_leastRides (xfind [(50, ([0, 1, 2, 6, 7, 8], wTv_leastRides_50 (qTv_leastRides_50 LF)))]) 62 0 (List.zip [0, 1, 2, 3, 4, 5] [.ref a0, .ref a1, .ref a2, .int x3, .int x4, .int x5]) [] h := rfl
theorem tTv_leastRides : XTo cX7_leastRides 9 RX7 1 4 103 0 [0, 1, 2, 3, 4, 5] (wTv_leastRides (qTv_leastRides)) := by
  refine XTo.run (B := BTv_leastRides) (cut := xfind [(50, ([0, 1, 2, 6, 7, 8], wTv_leastRides_50 (qTv_leastRides_50 LF)))]) kTv_leastRides (xcuts_ok (List.forall_mem_cons.mpr ⟨tTv_leastRides_50 LF, fun _ h => absurd h List.not_mem_nil⟩)) 62 (fun vs st h r hr => ?_)
  unfold wTv_leastRides at hr
  split at hr
  · exact (eTv_leastRides _ _ _ _ _ _ _).symm.trans hr
  · cases hr
def FTv_leastRides : List Value → XH → XR := fun vs h => match vs with
  | [.ref a0, .ref a1, .ref a2, .int x3, .int x4, .int x5] => qTv_leastRides a0 a1 a2 x3 x4 x5 h
  | _ => none
theorem STv_leastRides : XS yX7_leastRides cX7_leastRides 9 (some .int) (xrm 4 103) FTv_leastRides := by
  refine XS.of (own := RX7) (by decide) rfl (rk := 1) rfl (tTv_leastRides) (fun vs h r hr => ?_)
  unfold FTv_leastRides at hr
  split at hr
  · exact ⟨rfl, Nat.le_of_ble_eq_true rfl, hr⟩
  · cases hr
-- LineDiagram.rides(IIII)I
def rD_rides : List (Nat × XRow) := [(0, (.aload_n 0, 1, 0, .null, [])),
  (1, (.iload_n 1, 2, 1, .null, [])),
  (2, (.iload_n 2, 3, 2, .null, [])),
  (3, (.invokevirtual 151, 6, 151, .null, [])),
  (6, (.ifCond .eq 13, 9, 19, .null, [])),
  (9, (.aload_n 0, 10, 0, .null, [])),
  (10, (.iload_n 3, 11, 3, .null, [])),
  (11, (.iload 4, 13, 4, .null, [])),
  (13, (.invokevirtual 151, 16, 151, .null, [])),
  (16, (.ifCond .ne 5, 19, 21, .null, [])),
  (19, (.iconst (-1), 20, 0, .int (-1 : Int32), [])),
  (20, (.ireturn, 21, 0, .null, [])),
  (21, (.aload_n 0, 22, 0, .null, [])),
  (22, (.getfield 61, 25, 61, .null, [])),
  (25, (.aload_n 0, 26, 0, .null, [])),
  (26, (.getfield 29, 29, 29, .null, [])),
  (29, (.aload_n 0, 30, 0, .null, [])),
  (30, (.getfield 54, 33, 54, .null, [])),
  (33, (.aload_n 0, 34, 0, .null, [])),
  (34, (.getfield 54, 37, 54, .null, [])),
  (37, (.iload_n 1, 38, 1, .null, [])),
  (38, (.iload_n 2, 39, 2, .null, [])),
  (39, (.invokevirtual 157, 42, 157, .null, [])),
  (42, (.iload_n 3, 43, 3, .null, [])),
  (43, (.iload 4, 45, 4, .null, [])),
  (45, (.invokevirtual 306, 48, 306, .null, [])),
  (48, (.ireturn, 49, 0, .null, []))]
def mD_rides : List (Nat × XM) := [(151, (3, 1, some 8, FD_isStation)), (157, (3, 1, some 0, FB_stationCell)), (306, (6, 1, some 7, FTv_leastRides))]
abbrev BD_rides : XB := (rD_rides, XFT_D, mD_rides, 1, XST_D)
set_option maxRecDepth 100000 in
theorem kD_rides : XOK BD_rides cX8_rides 5 RX8 5 131 := xok_of (cps := []) (K := XKT_D) (by decide +kernel) XKT_D_ok (fun _ h => absurd h List.not_mem_nil) XFT_D_ok (List.forall_mem_cons.mpr ⟨⟨_, _, _, _, _, _, _, SD_isStation, rfl, rfl, Nat.le_of_ble_eq_true rfl, Nat.le_of_ble_eq_true rfl, cdD_isStation, lkD_151, imD_isStation, slD_isStation, inD_isStation, pmD_isStation⟩, List.forall_mem_cons.mpr ⟨⟨_, _, _, _, _, _, _, SB_stationCell, rfl, rfl, Nat.le_of_ble_eq_true rfl, Nat.le_of_ble_eq_true rfl, cdB_stationCell, lkD_157, imB_stationCell, slB_stationCell, inB_stationCell, pmB_stationCell⟩, List.forall_mem_cons.mpr ⟨⟨_, _, _, _, _, _, _, STv_leastRides, rfl, rfl, Nat.le_of_ble_eq_true rfl, Nat.le_of_ble_eq_true rfl, cdTv_leastRides, lkD_306, imTv_leastRides, slTv_leastRides, inTv_leastRides, pmTv_leastRides⟩, fun _ h => absurd h List.not_mem_nil⟩⟩⟩) XST_D_ok
def wD_rides (f : Nat → Int32 → Int32 → Int32 → Int32 → XH → XR) : List Value → List Value → XH → XR := fun vs st h => match vs, st with
  | [.ref a0, .int x1, .int x2, .int x3, .int x4], [] => f a0 x1 x2 x3 x4 h
  | _, _ => none
set_option maxRecDepth 100000 in
theorem eD_rides (a0 : Nat) (x1 : Int32) (x2 : Int32) (x3 : Int32) (x4 : Int32) (h : XH) : qD_rides a0 x1 x2 x3 x4 h = xrun BD_rides (xfind []) 30 0 (List.zip [0, 1, 2, 3, 4] [.ref a0, .int x1, .int x2, .int x3, .int x4]) [] h := rfl
theorem tD_rides : XTo cX8_rides 5 RX8 1 5 131 0 [0, 1, 2, 3, 4] (wD_rides (qD_rides)) := by
  refine XTo.run (B := BD_rides) (cut := xfind []) kD_rides (xcuts_ok (fun _ h => absurd h List.not_mem_nil)) 30 (fun vs st h r hr => ?_)
  unfold wD_rides at hr
  split at hr
  · exact (eD_rides _ _ _ _ _ _).symm.trans hr
  · cases hr
def FD_rides : List Value → XH → XR := fun vs h => match vs with
  | [.ref a0, .int x1, .int x2, .int x3, .int x4] => qD_rides a0 x1 x2 x3 x4 h
  | _ => none
theorem SD_rides : XS yX8_rides cX8_rides 5 (some .int) (xrm 5 131) FD_rides := by
  refine XS.of (own := RX8) (by decide) rfl (rk := 1) rfl (tD_rides) (fun vs h r hr => ?_)
  unfold FD_rides at hr
  split at hr
  · exact ⟨rfl, Nat.le_of_ble_eq_true rfl, hr⟩
  · cases hr
-- LineDiagramModel.reaches(II)V
def rM_reaches : List (Nat × XRow) := [(0, (.aload_n 0, 1, 0, .null, [])),
  (1, (.getfield 67, 4, 67, .null, [])),
  (4, (.iload_n 1, 5, 1, .null, [])),
  (5, (.iaload, 6, 0, .null, [])),
  (6, (.ifCond .ge 30, 9, 36, .null, [])),
  (9, (.aload_n 0, 10, 0, .null, [])),
  (10, (.getfield 67, 13, 67, .null, [])),
  (13, (.iload_n 1, 14, 1, .null, [])),
  (14, (.iload_n 2, 15, 2, .null, [])),
  (15, (.iastore, 16, 0, .null, [])),
  (16, (.aload_n 0, 17, 0, .null, [])),
  (17, (.getfield 70, 20, 70, .null, [])),
  (20, (.aload_n 0, 21, 0, .null, [])),
  (21, (.getfield 451, 24, 451, .null, [])),
  (24, (.iload_n 1, 25, 1, .null, [])),
  (25, (.iastore, 26, 0, .null, [])),
  (26, (.aload_n 0, 27, 0, .null, [])),
  (27, (.dup, 28, 0, .null, [])),
  (28, (.getfield 451, 31, 451, .null, [])),
  (31, (.iconst 1, 32, 0, .int (1 : Int32), [])),
  (32, (.iadd, 33, 0, .null, [])),
  (33, (.putfield 451, 36, 451, .null, [])),
  (36, (.return_, 37, 0, .null, []))]
def mM_reaches : List (Nat × XM) := []
abbrev BM_reaches : XB := (rM_reaches, XFT_M, mM_reaches, 0, XST_M)
set_option maxRecDepth 100000 in
theorem kM_reaches : XOK BM_reaches cX9_reaches 3 RX9 0 0 := xok_of (cps := []) (K := XKT_M) (by decide +kernel) XKT_M_ok (fun _ h => absurd h List.not_mem_nil) XFT_M_ok (fun _ h => absurd h List.not_mem_nil) XST_M_ok
def wM_reaches (f : Nat → Int32 → Int32 → XH → XR) : List Value → List Value → XH → XR := fun vs st h => match vs, st with
  | [.ref a0, .int x1, .int x2], [] => f a0 x1 x2 h
  | _, _ => none
set_option maxRecDepth 100000 in
theorem eM_reaches (a0 : Nat) (x1 : Int32) (x2 : Int32) (h : XH) : qM_reaches a0 x1 x2 h = xrun BM_reaches (xfind []) 26 0 (List.zip [0, 1, 2] [.ref a0, .int x1, .int x2]) [] h := rfl
theorem tM_reaches : XTo cX9_reaches 3 RX9 0 0 0 0 [0, 1, 2] (wM_reaches (qM_reaches)) := by
  refine XTo.run (B := BM_reaches) (cut := xfind []) kM_reaches (xcuts_ok (fun _ h => absurd h List.not_mem_nil)) 26 (fun vs st h r hr => ?_)
  unfold wM_reaches at hr
  split at hr
  · exact (eM_reaches _ _ _ _).symm.trans hr
  · cases hr
def FM_reaches : List Value → XH → XR := fun vs h => match vs with
  | [.ref a0, .int x1, .int x2] => qM_reaches a0 x1 x2 h
  | _ => none
theorem SM_reaches : XS yX9_reaches cX9_reaches 3 none (xrm 0 0) FM_reaches := by
  refine XS.of (own := RX9) (by decide) rfl (rk := 0) rfl (tM_reaches) (fun vs h r hr => ?_)
  unfold FM_reaches at hr
  split at hr
  · exact ⟨rfl, Nat.le_of_ble_eq_true rfl, hr⟩
  · cases hr
-- LineDiagramModel.ridesOn(I)V
def rM_ridesOn : List (Nat × XRow) := [(0, (.iconst 0, 1, 0, .int (0 : Int32), [])),
  (1, (.istore_n 2, 2, 2, .null, [])),
  (2, (.iload_n 2, 3, 2, .null, [])),
  (3, (.aload_n 0, 4, 0, .null, [])),
  (4, (.getfield 100, 7, 100, .null, [])),
  (7, (.if_icmp .ge 96, 10, 103, .null, [])),
  (10, (.iconst 0, 11, 0, .int (0 : Int32), [])),
  (11, (.istore_n 3, 12, 3, .null, [])),
  (12, (.iload_n 3, 13, 3, .null, [])),
  (13, (.aload_n 0, 14, 0, .null, [])),
  (14, (.iload_n 2, 15, 2, .null, [])),
  (15, (.iconst 1, 16, 0, .int (1 : Int32), [])),
  (16, (.invokevirtual 88, 19, 88, .null, [])),
  (19, (.if_icmp .ge 78, 22, 97, .null, [])),
  (22, (.aload_n 0, 23, 0, .null, [])),
  (23, (.iload_n 2, 24, 2, .null, [])),
  (24, (.iload_n 3, 25, 3, .null, [])),
  (25, (.invokevirtual 151, 28, 151, .null, [])),
  (28, (.iload_n 1, 29, 1, .null, [])),
  (29, (.if_icmp .eq 6, 32, 35, .null, [])),
  (32, (.goto 59, 35, 91, .null, [])),
  (35, (.iload_n 3, 36, 3, .null, [])),
  (36, (.ifCond .le 23, 39, 59, .null, [])),
  (39, (.aload_n 0, 40, 0, .null, [])),
  (40, (.aload_n 0, 41, 0, .null, [])),
  (41, (.iload_n 2, 42, 2, .null, [])),
  (42, (.iload_n 3, 43, 3, .null, [])),
  (43, (.iconst 1, 44, 0, .int (1 : Int32), [])),
  (44, (.isub, 45, 0, .null, [])),
  (45, (.invokevirtual 151, 48, 151, .null, [])),
  (48, (.aload_n 0, 49, 0, .null, [])),
  (49, (.getfield 67, 52, 67, .null, [])),
  (52, (.iload_n 1, 53, 1, .null, [])),
  (53, (.iaload, 54, 0, .null, [])),
  (54, (.iconst 1, 55, 0, .int (1 : Int32), [])),
  (55, (.iadd, 56, 0, .null, [])),
  (56, (.invokevirtual 454, 59, 454, .null, [])),
  (59, (.iload_n 3, 60, 3, .null, [])),
  (60, (.iconst 1, 61, 0, .int (1 : Int32), [])),
  (61, (.iadd, 62, 0, .null, [])),
  (62, (.aload_n 0, 63, 0, .null, [])),
  (63, (.iload_n 2, 64, 2, .null, [])),
  (64, (.iconst 1, 65, 0, .int (1 : Int32), [])),
  (65, (.invokevirtual 88, 68, 88, .null, [])),
  (68, (.if_icmp .ge 23, 71, 91, .null, [])),
  (71, (.aload_n 0, 72, 0, .null, [])),
  (72, (.aload_n 0, 73, 0, .null, [])),
  (73, (.iload_n 2, 74, 2, .null, [])),
  (74, (.iload_n 3, 75, 3, .null, [])),
  (75, (.iconst 1, 76, 0, .int (1 : Int32), [])),
  (76, (.iadd, 77, 0, .null, [])),
  (77, (.invokevirtual 151, 80, 151, .null, [])),
  (80, (.aload_n 0, 81, 0, .null, [])),
  (81, (.getfield 67, 84, 67, .null, [])),
  (84, (.iload_n 1, 85, 1, .null, [])),
  (85, (.iaload, 86, 0, .null, [])),
  (86, (.iconst 1, 87, 0, .int (1 : Int32), [])),
  (87, (.iadd, 88, 0, .null, [])),
  (88, (.invokevirtual 454, 91, 454, .null, [])),
  (91, (.iinc 3 1, 94, 3, .int (1 : Int32), [])),
  (94, (.goto (-82), 97, 12, .null, [])),
  (97, (.iinc 2 1, 100, 2, .int (1 : Int32), [])),
  (100, (.goto (-98), 103, 2, .null, [])),
  (103, (.return_, 104, 0, .null, []))]
def mM_ridesOn : List (Nat × XM) := [(88, (3, 1, some 9, FM_of)), (151, (3, 1, some 9, FM_cellOf)), (454, (3, 0, some 9, FM_reaches))]
abbrev BM_ridesOn : XB := (rM_ridesOn, XFT_M, mM_ridesOn, 0, XST_M)
set_option maxRecDepth 100000 in
theorem kM_ridesOn : XOK BM_ridesOn cX9_ridesOn 4 RX9 3 66 := xok_of (cps := []) (K := XKT_M) (by decide +kernel) XKT_M_ok (fun _ h => absurd h List.not_mem_nil) XFT_M_ok (List.forall_mem_cons.mpr ⟨⟨_, _, _, _, _, _, _, SM_of, rfl, rfl, Nat.le_of_ble_eq_true rfl, Nat.le_of_ble_eq_true rfl, cdM_of, lkM_88, imM_of, slM_of, inM_of, pmM_of⟩, List.forall_mem_cons.mpr ⟨⟨_, _, _, _, _, _, _, SM_cellOf, rfl, rfl, Nat.le_of_ble_eq_true rfl, Nat.le_of_ble_eq_true rfl, cdM_cellOf, lkM_151, imM_cellOf, slM_cellOf, inM_cellOf, pmM_cellOf⟩, List.forall_mem_cons.mpr ⟨⟨_, _, _, _, _, _, _, SM_reaches, rfl, rfl, Nat.le_of_ble_eq_true rfl, Nat.le_of_ble_eq_true rfl, cdM_reaches, lkM_454, imM_reaches, slM_reaches, inM_reaches, pmM_reaches⟩, fun _ h => absurd h List.not_mem_nil⟩⟩⟩) XST_M_ok
def wM_ridesOn_59 (f : Nat → Int32 → Int32 → Int32 → XH → XR) : List Value → List Value → XH → XR := fun vs st h => match vs, st with
  | [.ref a0, .int x1, .int x2, .int x3], [] => f a0 x1 x2 x3 h
  | _, _ => none
def wM_ridesOn_12 (f : Nat → Int32 → Int32 → Int32 → XH → XR) : List Value → List Value → XH → XR := fun vs st h => match vs, st with
  | [.ref a0, .int x1, .int x2, .int x3], [] => f a0 x1 x2 x3 h
  | _, _ => none
def wM_ridesOn_2 (f : Nat → Int32 → Int32 → XH → XR) : List Value → List Value → XH → XR := fun vs st h => match vs, st with
  | [.ref a0, .int x1, .int x2], [] => f a0 x1 x2 h
  | _, _ => none
def wM_ridesOn (f : Nat → Int32 → XH → XR) : List Value → List Value → XH → XR := fun vs st h => match vs, st with
  | [.ref a0, .int x1], [] => f a0 x1 h
  | _, _ => none
set_option maxRecDepth 100000 in
theorem eM_ridesOn_59 (k2 : Nat → Int32 → Int32 → XH → XR) (k12 : Nat → Int32 → Int32 → Int32 → XH → XR) (a0 : Nat) (x1 : Int32) (x2 : Int32) (x3 : Int32) (h : XH) : qM_ridesOn_59 k2 k12 a0 x1 x2 x3 h = xrun BM_ridesOn (xfind [(12, ([0, 1, 2, 3], wM_ridesOn_12 (k12)))]) 67 59 (List.zip [0, 1, 2, 3] [.ref a0, .int x1, .int x2, .int x3]) [] h := rfl
theorem tM_ridesOn_59 {k2 : Nat → Int32 → Int32 → XH → XR} {k12 : Nat → Int32 → Int32 → Int32 → XH → XR} (hk2 : XTo cX9_ridesOn 4 RX9 0 3 66 2 [0, 1, 2] (wM_ridesOn_2 k2)) (hk12 : XTo cX9_ridesOn 4 RX9 0 3 66 12 [0, 1, 2, 3] (wM_ridesOn_12 k12)) : XTo cX9_ridesOn 4 RX9 0 3 66 59 [0, 1, 2, 3] (wM_ridesOn_59 (qM_ridesOn_59 k2 k12)) := by
  refine XTo.run (B := BM_ridesOn) (cut := xfind [(12, ([0, 1, 2, 3], wM_ridesOn_12 (k12)))]) kM_ridesOn (xcuts_ok (List.forall_mem_cons.mpr ⟨hk12, fun _ h => absurd h List.not_mem_nil⟩)) 67 (fun vs st h r hr => ?_)
  unfold wM_ridesOn_59 at hr
  split at hr
  · exact (eM_ridesOn_59 k2 k12 _ _ _ _ _).symm.trans hr
  · cases hr
set_option maxRecDepth 100000 in
theorem eM_ridesOn_12_b (k2 : Nat → Int32 → Int32 → XH → XR) (k12 : Nat → Int32 → Int32 → Int32 → XH → XR) (a0 : Nat) (x1 : Int32) (x2 : Int32) (x3 : Int32) (h : XH) : qM_ridesOn_12_b k2 k12 a0 x1 x2 x3 h = xrun BM_ridesOn (xfind [(2, ([0, 1, 2], wM_ridesOn_2 (k2))), (12, ([0, 1, 2, 3], wM_ridesOn_12 (k12))), (59, ([0, 1, 2, 3], wM_ridesOn_59 (qM_ridesOn_59 k2 k12)))]) 67 12 (List.zip [0, 1, 2, 3] [.ref a0, .int x1, .int x2, .int x3]) [] h := rfl
theorem tM_ridesOn_12_b {k2 : Nat → Int32 → Int32 → XH → XR} {k12 : Nat → Int32 → Int32 → Int32 → XH → XR} (hk2 : XTo cX9_ridesOn 4 RX9 0 3 66 2 [0, 1, 2] (wM_ridesOn_2 k2)) (hk12 : XTo cX9_ridesOn 4 RX9 0 3 66 12 [0, 1, 2, 3] (wM_ridesOn_12 k12)) : XTo cX9_ridesOn 4 RX9 0 3 66 12 [0, 1, 2, 3] (wM_ridesOn_12 (qM_ridesOn_12_b k2 k12)) := by
  refine XTo.run (B := BM_ridesOn) (cut := xfind [(2, ([0, 1, 2], wM_ridesOn_2 (k2))), (12, ([0, 1, 2, 3], wM_ridesOn_12 (k12))), (59, ([0, 1, 2, 3], wM_ridesOn_59 (qM_ridesOn_59 k2 k12)))]) kM_ridesOn (xcuts_ok (List.forall_mem_cons.mpr ⟨hk2, List.forall_mem_cons.mpr ⟨hk12, List.forall_mem_cons.mpr ⟨tM_ridesOn_59 hk2 hk12, fun _ h => absurd h List.not_mem_nil⟩⟩⟩)) 67 (fun vs st h r hr => ?_)
  unfold wM_ridesOn_12 at hr
  split at hr
  · exact (eM_ridesOn_12_b k2 k12 _ _ _ _ _).symm.trans hr
  · cases hr
theorem tM_ridesOn_12 {k2 : Nat → Int32 → Int32 → XH → XR} (hk2 : XTo cX9_ridesOn 4 RX9 0 3 66 2 [0, 1, 2] (wM_ridesOn_2 k2)) : ∀ n : Nat, XTo cX9_ridesOn 4 RX9 0 3 66 12 [0, 1, 2, 3] (wM_ridesOn_12 (qM_ridesOn_12 k2 n)) := by
  intro n
  induction n with
  | zero =>
    refine XTo.none fun vs st h => ?_
    unfold wM_ridesOn_12
    split <;> rfl
  | succ n ih => exact tM_ridesOn_12_b hk2 ih
set_option maxRecDepth 100000 in
theorem eM_ridesOn_2_b (k2 : Nat → Int32 → Int32 → XH → XR) (a0 : Nat) (x1 : Int32) (x2 : Int32) (h : XH) : qM_ridesOn_2_b k2 a0 x1 x2 h = xrun BM_ridesOn (xfind [(12, ([0, 1, 2, 3], wM_ridesOn_12 (qM_ridesOn_12 k2 LF)))]) 67 2 (List.zip [0, 1, 2] [.ref a0, .int x1, .int x2]) [] h := rfl
theorem tM_ridesOn_2_b {k2 : Nat → Int32 → Int32 → XH → XR} (hk2 : XTo cX9_ridesOn 4 RX9 0 3 66 2 [0, 1, 2] (wM_ridesOn_2 k2)) : XTo cX9_ridesOn 4 RX9 0 3 66 2 [0, 1, 2] (wM_ridesOn_2 (qM_ridesOn_2_b k2)) := by
  refine XTo.run (B := BM_ridesOn) (cut := xfind [(12, ([0, 1, 2, 3], wM_ridesOn_12 (qM_ridesOn_12 k2 LF)))]) kM_ridesOn (xcuts_ok (List.forall_mem_cons.mpr ⟨tM_ridesOn_12 hk2 LF, fun _ h => absurd h List.not_mem_nil⟩)) 67 (fun vs st h r hr => ?_)
  unfold wM_ridesOn_2 at hr
  split at hr
  · exact (eM_ridesOn_2_b k2 _ _ _ _).symm.trans hr
  · cases hr
theorem tM_ridesOn_2 : ∀ n : Nat, XTo cX9_ridesOn 4 RX9 0 3 66 2 [0, 1, 2] (wM_ridesOn_2 (qM_ridesOn_2 n)) := by
  intro n
  induction n with
  | zero =>
    refine XTo.none fun vs st h => ?_
    unfold wM_ridesOn_2
    split <;> rfl
  | succ n ih => exact tM_ridesOn_2_b  ih
set_option maxRecDepth 100000 in
theorem eM_ridesOn (a0 : Nat) (x1 : Int32) (h : XH) : qM_ridesOn a0 x1 h = xrun BM_ridesOn (xfind [(2, ([0, 1, 2], wM_ridesOn_2 (qM_ridesOn_2 LF)))]) 67 0 (List.zip [0, 1] [.ref a0, .int x1]) [] h := rfl
theorem tM_ridesOn : XTo cX9_ridesOn 4 RX9 0 3 66 0 [0, 1] (wM_ridesOn (qM_ridesOn)) := by
  refine XTo.run (B := BM_ridesOn) (cut := xfind [(2, ([0, 1, 2], wM_ridesOn_2 (qM_ridesOn_2 LF)))]) kM_ridesOn (xcuts_ok (List.forall_mem_cons.mpr ⟨tM_ridesOn_2 LF, fun _ h => absurd h List.not_mem_nil⟩)) 67 (fun vs st h r hr => ?_)
  unfold wM_ridesOn at hr
  split at hr
  · exact (eM_ridesOn _ _ _).symm.trans hr
  · cases hr
def FM_ridesOn : List Value → XH → XR := fun vs h => match vs with
  | [.ref a0, .int x1] => qM_ridesOn a0 x1 h
  | _ => none
theorem SM_ridesOn : XS yX9_ridesOn cX9_ridesOn 4 none (xrm 3 66) FM_ridesOn := by
  refine XS.of (own := RX9) (by decide) rfl (rk := 0) rfl (tM_ridesOn) (fun vs h r hr => ?_)
  unfold FM_ridesOn at hr
  split at hr
  · exact ⟨rfl, Nat.le_of_ble_eq_true rfl, hr⟩
  · cases hr
-- LineDiagramModel.rides(IIII)I
def rM_rides : List (Nat × XRow) := [(0, (.aload_n 0, 1, 0, .null, [])),
  (1, (.iload_n 1, 2, 1, .null, [])),
  (2, (.iload_n 2, 3, 2, .null, [])),
  (3, (.invokevirtual 374, 6, 374, .null, [])),
  (6, (.ifCond .eq 13, 9, 19, .null, [])),
  (9, (.aload_n 0, 10, 0, .null, [])),
  (10, (.iload_n 3, 11, 3, .null, [])),
  (11, (.iload 4, 13, 4, .null, [])),
  (13, (.invokevirtual 374, 16, 374, .null, [])),
  (16, (.ifCond .ne 5, 19, 21, .null, [])),
  (19, (.iconst (-1), 20, 0, .int (-1 : Int32), [])),
  (20, (.ireturn, 21, 0, .null, [])),
  (21, (.aload_n 0, 22, 0, .null, [])),
  (22, (.invokevirtual 380, 25, 380, .null, [])),
  (25, (.iconst 0, 26, 0, .int (0 : Int32), [])),
  (26, (.istore 5, 28, 5, .null, [])),
  (28, (.iload 5, 30, 5, .null, [])),
  (30, (.sipush 1600, 33, 0, .int (1600 : Int32), [])),
  (33, (.if_icmp .ge 18, 36, 51, .null, [])),
  (36, (.aload_n 0, 37, 0, .null, [])),
  (37, (.getfield 67, 40, 67, .null, [])),
  (40, (.iload 5, 42, 5, .null, [])),
  (42, (.bipush (-2), 44, 0, .int (-2 : Int32), [])),
  (44, (.iastore, 45, 0, .null, [])),
  (45, (.iinc 5 1, 48, 5, .int (1 : Int32), [])),
  (48, (.goto (-20), 51, 28, .null, [])),
  (51, (.aload_n 0, 52, 0, .null, [])),
  (52, (.iconst 0, 53, 0, .int (0 : Int32), [])),
  (53, (.putfield 451, 56, 451, .null, [])),
  (56, (.aload_n 0, 57, 0, .null, [])),
  (57, (.aload_n 0, 58, 0, .null, [])),
  (58, (.iload_n 1, 59, 1, .null, [])),
  (59, (.iload_n 2, 60, 2, .null, [])),
  (60, (.invokevirtual 151, 63, 151, .null, [])),
  (63, (.iconst 0, 64, 0, .int (0 : Int32), [])),
  (64, (.invokevirtual 454, 67, 454, .null, [])),
  (67, (.iconst 0, 68, 0, .int (0 : Int32), [])),
  (68, (.istore 5, 70, 5, .null, [])),
  (70, (.iload 5, 72, 5, .null, [])),
  (72, (.aload_n 0, 73, 0, .null, [])),
  (73, (.getfield 451, 76, 451, .null, [])),
  (76, (.if_icmp .ge 20, 79, 96, .null, [])),
  (79, (.aload_n 0, 80, 0, .null, [])),
  (80, (.aload_n 0, 81, 0, .null, [])),
  (81, (.getfield 70, 84, 70, .null, [])),
  (84, (.iload 5, 86, 5, .null, [])),
  (86, (.iaload, 87, 0, .null, [])),
  (87, (.invokevirtual 457, 90, 457, .null, [])),
  (90, (.iinc 5 1, 93, 5, .int (1 : Int32), [])),
  (93, (.goto (-23), 96, 70, .null, [])),
  (96, (.aload_n 0, 97, 0, .null, [])),
  (97, (.getfield 67, 100, 67, .null, [])),
  (100, (.aload_n 0, 101, 0, .null, [])),
  (101, (.iload_n 3, 102, 3, .null, [])),
  (102, (.iload 4, 104, 4, .null, [])),
  (104, (.invokevirtual 151, 107, 151, .null, [])),
  (107, (.iaload, 108, 0, .null, [])),
  (108, (.ireturn, 109, 0, .null, []))]
def mM_rides : List (Nat × XM) := [(151, (3, 1, some 9, FM_cellOf)), (374, (3, 1, some 9, FM_isStation)), (380, (1, 0, some 9, FM_lays)), (454, (3, 0, some 9, FM_reaches)), (457, (2, 0, some 9, FM_ridesOn))]
abbrev BM_rides : XB := (rM_rides, XFT_M, mM_rides, 1, XST_M)
set_option maxRecDepth 100000 in
theorem kM_rides : XOK BM_rides cX9_rides 6 RX9 6 138 := xok_of (cps := []) (K := XKT_M) (by decide +kernel) XKT_M_ok (fun _ h => absurd h List.not_mem_nil) XFT_M_ok (List.forall_mem_cons.mpr ⟨⟨_, _, _, _, _, _, _, SM_cellOf, rfl, rfl, Nat.le_of_ble_eq_true rfl, Nat.le_of_ble_eq_true rfl, cdM_cellOf, lkM_151, imM_cellOf, slM_cellOf, inM_cellOf, pmM_cellOf⟩, List.forall_mem_cons.mpr ⟨⟨_, _, _, _, _, _, _, SM_isStation, rfl, rfl, Nat.le_of_ble_eq_true rfl, Nat.le_of_ble_eq_true rfl, cdM_isStation, lkM_374, imM_isStation, slM_isStation, inM_isStation, pmM_isStation⟩, List.forall_mem_cons.mpr ⟨⟨_, _, _, _, _, _, _, SM_lays, rfl, rfl, Nat.le_of_ble_eq_true rfl, Nat.le_of_ble_eq_true rfl, cdM_lays, lkM_380, imM_lays, slM_lays, inM_lays, pmM_lays⟩, List.forall_mem_cons.mpr ⟨⟨_, _, _, _, _, _, _, SM_reaches, rfl, rfl, Nat.le_of_ble_eq_true rfl, Nat.le_of_ble_eq_true rfl, cdM_reaches, lkM_454, imM_reaches, slM_reaches, inM_reaches, pmM_reaches⟩, List.forall_mem_cons.mpr ⟨⟨_, _, _, _, _, _, _, SM_ridesOn, rfl, rfl, Nat.le_of_ble_eq_true rfl, Nat.le_of_ble_eq_true rfl, cdM_ridesOn, lkM_457, imM_ridesOn, slM_ridesOn, inM_ridesOn, pmM_ridesOn⟩, fun _ h => absurd h List.not_mem_nil⟩⟩⟩⟩⟩) XST_M_ok
def wM_rides_96 (f : Nat → Int32 → Int32 → XH → XR) : List Value → List Value → XH → XR := fun vs st h => match vs, st with
  | [.ref a0, .int x3, .int x4], [] => f a0 x3 x4 h
  | _, _ => none
def wM_rides_70 (f : Nat → Int32 → Int32 → Int32 → XH → XR) : List Value → List Value → XH → XR := fun vs st h => match vs, st with
  | [.ref a0, .int x3, .int x4, .int x5], [] => f a0 x3 x4 x5 h
  | _, _ => none
def wM_rides_51 (f : Nat → Int32 → Int32 → Int32 → Int32 → XH → XR) : List Value → List Value → XH → XR := fun vs st h => match vs, st with
  | [.ref a0, .int x1, .int x2, .int x3, .int x4], [] => f a0 x1 x2 x3 x4 h
  | _, _ => none
def wM_rides_28 (f : Nat → Int32 → Int32 → Int32 → Int32 → Int32 → XH → XR) : List Value → List Value → XH → XR := fun vs st h => match vs, st with
  | [.ref a0, .int x1, .int x2, .int x3, .int x4, .int x5], [] => f a0 x1 x2 x3 x4 x5 h
  | _, _ => none
def wM_rides (f : Nat → Int32 → Int32 → Int32 → Int32 → XH → XR) : List Value → List Value → XH → XR := fun vs st h => match vs, st with
  | [.ref a0, .int x1, .int x2, .int x3, .int x4], [] => f a0 x1 x2 x3 x4 h
  | _, _ => none
set_option maxRecDepth 100000 in
theorem eM_rides_96 (a0 : Nat) (x3 : Int32) (x4 : Int32) (h : XH) : qM_rides_96 a0 x3 x4 h = xrun BM_rides (xfind []) 61 96 (List.zip [0, 3, 4] [.ref a0, .int x3, .int x4]) [] h := rfl
theorem tM_rides_96 : XTo cX9_rides 6 RX9 1 6 138 96 [0, 3, 4] (wM_rides_96 (qM_rides_96)) := by
  refine XTo.run (B := BM_rides) (cut := xfind []) kM_rides (xcuts_ok (fun _ h => absurd h List.not_mem_nil)) 61 (fun vs st h r hr => ?_)
  unfold wM_rides_96 at hr
  split at hr
  · exact (eM_rides_96 _ _ _ _).symm.trans hr
  · cases hr
set_option maxRecDepth 100000 in
theorem eM_rides_70_b (k70 : Nat → Int32 → Int32 → Int32 → XH → XR) (a0 : Nat) (x3 : Int32) (x4 : Int32) (x5 : Int32) (h : XH) : qM_rides_70_b k70 a0 x3 x4 x5 h = xrun BM_rides (xfind [(70, ([0, 3, 4, 5], wM_rides_70 (k70))), (96, ([0, 3, 4], wM_rides_96 (qM_rides_96)))]) 61 70 (List.zip [0, 3, 4, 5] [.ref a0, .int x3, .int x4, .int x5]) [] h := rfl
theorem tM_rides_70_b {k70 : Nat → Int32 → Int32 → Int32 → XH → XR} (hk70 : XTo cX9_rides 6 RX9 1 6 138 70 [0, 3, 4, 5] (wM_rides_70 k70)) : XTo cX9_rides 6 RX9 1 6 138 70 [0, 3, 4, 5] (wM_rides_70 (qM_rides_70_b k70)) := by
  refine XTo.run (B := BM_rides) (cut := xfind [(70, ([0, 3, 4, 5], wM_rides_70 (k70))), (96, ([0, 3, 4], wM_rides_96 (qM_rides_96)))]) kM_rides (xcuts_ok (List.forall_mem_cons.mpr ⟨hk70, List.forall_mem_cons.mpr ⟨tM_rides_96, fun _ h => absurd h List.not_mem_nil⟩⟩)) 61 (fun vs st h r hr => ?_)
  unfold wM_rides_70 at hr
  split at hr
  · exact (eM_rides_70_b k70 _ _ _ _ _).symm.trans hr
  · cases hr
theorem tM_rides_70 : ∀ n : Nat, XTo cX9_rides 6 RX9 1 6 138 70 [0, 3, 4, 5] (wM_rides_70 (qM_rides_70 n)) := by
  intro n
  induction n with
  | zero =>
    refine XTo.none fun vs st h => ?_
    unfold wM_rides_70
    split <;> rfl
  | succ n ih => exact tM_rides_70_b  ih
set_option maxRecDepth 100000 in
theorem eM_rides_51 (a0 : Nat) (x1 : Int32) (x2 : Int32) (x3 : Int32) (x4 : Int32) (h : XH) : qM_rides_51 a0 x1 x2 x3 x4 h = xrun BM_rides (xfind [(70, ([0, 3, 4, 5], wM_rides_70 (qM_rides_70 LF)))]) 61 51 (List.zip [0, 1, 2, 3, 4] [.ref a0, .int x1, .int x2, .int x3, .int x4]) [] h := rfl
theorem tM_rides_51 : XTo cX9_rides 6 RX9 1 6 138 51 [0, 1, 2, 3, 4] (wM_rides_51 (qM_rides_51)) := by
  refine XTo.run (B := BM_rides) (cut := xfind [(70, ([0, 3, 4, 5], wM_rides_70 (qM_rides_70 LF)))]) kM_rides (xcuts_ok (List.forall_mem_cons.mpr ⟨tM_rides_70 LF, fun _ h => absurd h List.not_mem_nil⟩)) 61 (fun vs st h r hr => ?_)
  unfold wM_rides_51 at hr
  split at hr
  · exact (eM_rides_51 _ _ _ _ _ _).symm.trans hr
  · cases hr
set_option maxRecDepth 100000 in
theorem eM_rides_28_b (k28 : Nat → Int32 → Int32 → Int32 → Int32 → Int32 → XH → XR) (a0 : Nat) (x1 : Int32) (x2 : Int32) (x3 : Int32) (x4 : Int32) (x5 : Int32) (h : XH) : qM_rides_28_b k28 a0 x1 x2 x3 x4 x5 h = xrun BM_rides (xfind [(28, ([0, 1, 2, 3, 4, 5], wM_rides_28 (k28))), (51, ([0, 1, 2, 3, 4], wM_rides_51 (qM_rides_51)))]) 61 28 (List.zip [0, 1, 2, 3, 4, 5] [.ref a0, .int x1, .int x2, .int x3, .int x4, .int x5]) [] h := rfl
theorem tM_rides_28_b {k28 : Nat → Int32 → Int32 → Int32 → Int32 → Int32 → XH → XR} (hk28 : XTo cX9_rides 6 RX9 1 6 138 28 [0, 1, 2, 3, 4, 5] (wM_rides_28 k28)) : XTo cX9_rides 6 RX9 1 6 138 28 [0, 1, 2, 3, 4, 5] (wM_rides_28 (qM_rides_28_b k28)) := by
  refine XTo.run (B := BM_rides) (cut := xfind [(28, ([0, 1, 2, 3, 4, 5], wM_rides_28 (k28))), (51, ([0, 1, 2, 3, 4], wM_rides_51 (qM_rides_51)))]) kM_rides (xcuts_ok (List.forall_mem_cons.mpr ⟨hk28, List.forall_mem_cons.mpr ⟨tM_rides_51, fun _ h => absurd h List.not_mem_nil⟩⟩)) 61 (fun vs st h r hr => ?_)
  unfold wM_rides_28 at hr
  split at hr
  · exact (eM_rides_28_b k28 _ _ _ _ _ _ _).symm.trans hr
  · cases hr
theorem tM_rides_28 : ∀ n : Nat, XTo cX9_rides 6 RX9 1 6 138 28 [0, 1, 2, 3, 4, 5] (wM_rides_28 (qM_rides_28 n)) := by
  intro n
  induction n with
  | zero =>
    refine XTo.none fun vs st h => ?_
    unfold wM_rides_28
    split <;> rfl
  | succ n ih => exact tM_rides_28_b  ih
set_option maxRecDepth 100000 in
theorem eM_rides (a0 : Nat) (x1 : Int32) (x2 : Int32) (x3 : Int32) (x4 : Int32) (h : XH) : qM_rides a0 x1 x2 x3 x4 h = xrun BM_rides (xfind [(28, ([0, 1, 2, 3, 4, 5], wM_rides_28 (qM_rides_28 LF)))]) 61 0 (List.zip [0, 1, 2, 3, 4] [.ref a0, .int x1, .int x2, .int x3, .int x4]) [] h := rfl
theorem tM_rides : XTo cX9_rides 6 RX9 1 6 138 0 [0, 1, 2, 3, 4] (wM_rides (qM_rides)) := by
  refine XTo.run (B := BM_rides) (cut := xfind [(28, ([0, 1, 2, 3, 4, 5], wM_rides_28 (qM_rides_28 LF)))]) kM_rides (xcuts_ok (List.forall_mem_cons.mpr ⟨tM_rides_28 LF, fun _ h => absurd h List.not_mem_nil⟩)) 61 (fun vs st h r hr => ?_)
  unfold wM_rides at hr
  split at hr
  · exact (eM_rides _ _ _ _ _ _).symm.trans hr
  · cases hr
def FM_rides : List Value → XH → XR := fun vs h => match vs with
  | [.ref a0, .int x1, .int x2, .int x3, .int x4] => qM_rides a0 x1 x2 x3 x4 h
  | _ => none
theorem SM_rides : XS yX9_rides cX9_rides 6 (some .int) (xrm 6 138) FM_rides := by
  refine XS.of (own := RX9) (by decide) rfl (rk := 1) rfl (tM_rides) (fun vs h r hr => ?_)
  unfold FM_rides at hr
  split at hr
  · exact ⟨rfl, Nat.le_of_ble_eq_true rfl, hr⟩
  · cases hr
-- LineDiagram$Travel.changeOn(LLineDiagram$Plan;LLineDiagram$Board;I)I
def rTv_changeOn : List (Nat × XRow) := [(0, (.iload_n 3, 1, 3, .null, [])),
  (1, (.istore 4, 3, 4, .null, [])),
  (3, (.iconst 0, 4, 0, .int (0 : Int32), [])),
  (4, (.istore 5, 6, 5, .null, [])),
  (6, (.iload 5, 8, 5, .null, [])),
  (8, (.aload_n 1, 9, 1, .null, [])),
  (9, (.getfield 29, 12, 29, .null, [])),
  (12, (.if_icmp .ge 60, 15, 72, .null, [])),
  (15, (.iload_n 3, 16, 3, .null, [])),
  (16, (.iload 5, 18, 5, .null, [])),
  (18, (.ishr, 19, 0, .null, [])),
  (19, (.iconst 1, 20, 0, .int (1 : Int32), [])),
  (20, (.iand, 21, 0, .null, [])),
  (21, (.ifCond .eq 45, 24, 66, .null, [])),
  (24, (.iconst 0, 25, 0, .int (0 : Int32), [])),
  (25, (.istore 6, 27, 6, .null, [])),
  (27, (.iload 6, 29, 6, .null, [])),
  (29, (.aload_n 1, 30, 1, .null, [])),
  (30, (.getfield 35, 33, 35, .null, [])),
  (33, (.iload 5, 35, 5, .null, [])),
  (35, (.aaload, 36, 0, .null, [])),
  (36, (.getfield 39, 39, 39, .null, [])),
  (39, (.if_icmp .ge 27, 42, 66, .null, [])),
  (42, (.iload 4, 44, 4, .null, [])),
  (44, (.aload_n 2, 45, 2, .null, [])),
  (45, (.getfield 54, 48, 54, .null, [])),
  (48, (.aload_n 2, 49, 2, .null, [])),
  (49, (.iload 5, 51, 5, .null, [])),
  (51, (.iload 6, 53, 6, .null, [])),
  (53, (.invokevirtual 48, 56, 48, .null, [])),
  (56, (.iaload, 57, 0, .null, [])),
  (57, (.ior, 58, 0, .null, [])),
  (58, (.istore 4, 60, 4, .null, [])),
  (60, (.iinc 6 1, 63, 6, .int (1 : Int32), [])),
  (63, (.goto (-36), 66, 27, .null, [])),
  (66, (.iinc 5 1, 69, 5, .int (1 : Int32), [])),
  (69, (.goto (-63), 72, 6, .null, [])),
  (72, (.iload 4, 74, 4, .null, [])),
  (74, (.ireturn, 75, 0, .null, []))]
def mTv_changeOn : List (Nat × XM) := [(48, (3, 1, some 0, FB_stationCell))]
abbrev BTv_changeOn : XB := (rTv_changeOn, XFT_Tv, mTv_changeOn, 1, XST_Tv)
set_option maxRecDepth 100000 in
theorem kTv_changeOn : XOK BTv_changeOn cX7_changeOn 7 RX7 1 23 := xok_of (cps := []) (K := XKT_Tv) (by decide +kernel) XKT_Tv_ok (fun _ h => absurd h List.not_mem_nil) XFT_Tv_ok (List.forall_mem_cons.mpr ⟨⟨_, _, _, _, _, _, _, SB_stationCell, rfl, rfl, Nat.le_of_ble_eq_true rfl, Nat.le_of_ble_eq_true rfl, cdB_stationCell, lkTv_48, imB_stationCell, slB_stationCell, inB_stationCell, pmB_stationCell⟩, fun _ h => absurd h List.not_mem_nil⟩) XST_Tv_ok
def wTv_changeOn_27 (f : Nat → Nat → Int32 → Int32 → Int32 → Int32 → XH → XR) : List Value → List Value → XH → XR := fun vs st h => match vs, st with
  | [.ref a1, .ref a2, .int x3, .int x4, .int x5, .int x6], [] => f a1 a2 x3 x4 x5 x6 h
  | _, _ => none
def wTv_changeOn_6 (f : Nat → Nat → Int32 → Int32 → Int32 → XH → XR) : List Value → List Value → XH → XR := fun vs st h => match vs, st with
  | [.ref a1, .ref a2, .int x3, .int x4, .int x5], [] => f a1 a2 x3 x4 x5 h
  | _, _ => none
def wTv_changeOn (f : Nat → Nat → Nat → Int32 → XH → XR) : List Value → List Value → XH → XR := fun vs st h => match vs, st with
  | [.ref a0, .ref a1, .ref a2, .int x3], [] => f a0 a1 a2 x3 h
  | _, _ => none
set_option maxRecDepth 100000 in
theorem eTv_changeOn_27_b (k6 : Nat → Nat → Int32 → Int32 → Int32 → XH → XR) (k27 : Nat → Nat → Int32 → Int32 → Int32 → Int32 → XH → XR) (a1 : Nat) (a2 : Nat) (x3 : Int32) (x4 : Int32) (x5 : Int32) (x6 : Int32) (h : XH) : qTv_changeOn_27_b k6 k27 a1 a2 x3 x4 x5 x6 h = xrun BTv_changeOn (xfind [(6, ([1, 2, 3, 4, 5], wTv_changeOn_6 (k6))), (27, ([1, 2, 3, 4, 5, 6], wTv_changeOn_27 (k27)))]) 42 27 (List.zip [1, 2, 3, 4, 5, 6] [.ref a1, .ref a2, .int x3, .int x4, .int x5, .int x6]) [] h := rfl
theorem tTv_changeOn_27_b {k6 : Nat → Nat → Int32 → Int32 → Int32 → XH → XR} {k27 : Nat → Nat → Int32 → Int32 → Int32 → Int32 → XH → XR} (hk6 : XTo cX7_changeOn 7 RX7 1 1 23 6 [1, 2, 3, 4, 5] (wTv_changeOn_6 k6)) (hk27 : XTo cX7_changeOn 7 RX7 1 1 23 27 [1, 2, 3, 4, 5, 6] (wTv_changeOn_27 k27)) : XTo cX7_changeOn 7 RX7 1 1 23 27 [1, 2, 3, 4, 5, 6] (wTv_changeOn_27 (qTv_changeOn_27_b k6 k27)) := by
  refine XTo.run (B := BTv_changeOn) (cut := xfind [(6, ([1, 2, 3, 4, 5], wTv_changeOn_6 (k6))), (27, ([1, 2, 3, 4, 5, 6], wTv_changeOn_27 (k27)))]) kTv_changeOn (xcuts_ok (List.forall_mem_cons.mpr ⟨hk6, List.forall_mem_cons.mpr ⟨hk27, fun _ h => absurd h List.not_mem_nil⟩⟩)) 42 (fun vs st h r hr => ?_)
  unfold wTv_changeOn_27 at hr
  split at hr
  · exact (eTv_changeOn_27_b k6 k27 _ _ _ _ _ _ _).symm.trans hr
  · cases hr
theorem tTv_changeOn_27 {k6 : Nat → Nat → Int32 → Int32 → Int32 → XH → XR} (hk6 : XTo cX7_changeOn 7 RX7 1 1 23 6 [1, 2, 3, 4, 5] (wTv_changeOn_6 k6)) : ∀ n : Nat, XTo cX7_changeOn 7 RX7 1 1 23 27 [1, 2, 3, 4, 5, 6] (wTv_changeOn_27 (qTv_changeOn_27 k6 n)) := by
  intro n
  induction n with
  | zero =>
    refine XTo.none fun vs st h => ?_
    unfold wTv_changeOn_27
    split <;> rfl
  | succ n ih => exact tTv_changeOn_27_b hk6 ih
set_option maxRecDepth 100000 in
theorem eTv_changeOn_6_b (k6 : Nat → Nat → Int32 → Int32 → Int32 → XH → XR) (a1 : Nat) (a2 : Nat) (x3 : Int32) (x4 : Int32) (x5 : Int32) (h : XH) : qTv_changeOn_6_b k6 a1 a2 x3 x4 x5 h = xrun BTv_changeOn (xfind [(6, ([1, 2, 3, 4, 5], wTv_changeOn_6 (k6))), (27, ([1, 2, 3, 4, 5, 6], wTv_changeOn_27 (qTv_changeOn_27 k6 LF)))]) 42 6 (List.zip [1, 2, 3, 4, 5] [.ref a1, .ref a2, .int x3, .int x4, .int x5]) [] h := rfl
theorem tTv_changeOn_6_b {k6 : Nat → Nat → Int32 → Int32 → Int32 → XH → XR} (hk6 : XTo cX7_changeOn 7 RX7 1 1 23 6 [1, 2, 3, 4, 5] (wTv_changeOn_6 k6)) : XTo cX7_changeOn 7 RX7 1 1 23 6 [1, 2, 3, 4, 5] (wTv_changeOn_6 (qTv_changeOn_6_b k6)) := by
  refine XTo.run (B := BTv_changeOn) (cut := xfind [(6, ([1, 2, 3, 4, 5], wTv_changeOn_6 (k6))), (27, ([1, 2, 3, 4, 5, 6], wTv_changeOn_27 (qTv_changeOn_27 k6 LF)))]) kTv_changeOn (xcuts_ok (List.forall_mem_cons.mpr ⟨hk6, List.forall_mem_cons.mpr ⟨tTv_changeOn_27 hk6 LF, fun _ h => absurd h List.not_mem_nil⟩⟩)) 42 (fun vs st h r hr => ?_)
  unfold wTv_changeOn_6 at hr
  split at hr
  · exact (eTv_changeOn_6_b k6 _ _ _ _ _ _).symm.trans hr
  · cases hr
theorem tTv_changeOn_6 : ∀ n : Nat, XTo cX7_changeOn 7 RX7 1 1 23 6 [1, 2, 3, 4, 5] (wTv_changeOn_6 (qTv_changeOn_6 n)) := by
  intro n
  induction n with
  | zero =>
    refine XTo.none fun vs st h => ?_
    unfold wTv_changeOn_6
    split <;> rfl
  | succ n ih => exact tTv_changeOn_6_b  ih
set_option maxRecDepth 100000 in
theorem eTv_changeOn (a0 : Nat) (a1 : Nat) (a2 : Nat) (x3 : Int32) (h : XH) : qTv_changeOn a0 a1 a2 x3 h = xrun BTv_changeOn (xfind [(6, ([1, 2, 3, 4, 5], wTv_changeOn_6 (qTv_changeOn_6 LF)))]) 42 0 (List.zip [0, 1, 2, 3] [.ref a0, .ref a1, .ref a2, .int x3]) [] h := rfl
theorem tTv_changeOn : XTo cX7_changeOn 7 RX7 1 1 23 0 [0, 1, 2, 3] (wTv_changeOn (qTv_changeOn)) := by
  refine XTo.run (B := BTv_changeOn) (cut := xfind [(6, ([1, 2, 3, 4, 5], wTv_changeOn_6 (qTv_changeOn_6 LF)))]) kTv_changeOn (xcuts_ok (List.forall_mem_cons.mpr ⟨tTv_changeOn_6 LF, fun _ h => absurd h List.not_mem_nil⟩)) 42 (fun vs st h r hr => ?_)
  unfold wTv_changeOn at hr
  split at hr
  · exact (eTv_changeOn _ _ _ _ _).symm.trans hr
  · cases hr
def FTv_changeOn : List Value → XH → XR := fun vs h => match vs with
  | [.ref a0, .ref a1, .ref a2, .int x3] => qTv_changeOn a0 a1 a2 x3 h
  | _ => none
theorem STv_changeOn : XS yX7_changeOn cX7_changeOn 7 (some .int) (xrm 1 23) FTv_changeOn := by
  refine XS.of (own := RX7) (by decide) rfl (rk := 1) rfl (tTv_changeOn) (fun vs h r hr => ?_)
  unfold FTv_changeOn at hr
  split at hr
  · exact ⟨rfl, Nat.le_of_ble_eq_true rfl, hr⟩
  · cases hr
-- LineDiagram$Travel.leastChanges(LLineDiagram$Plan;LLineDiagram$Board;II)I
def rTv_leastChanges : List (Nat × XRow) := [(0, (.aload_n 2, 1, 2, .null, [])),
  (1, (.getfield 54, 4, 54, .null, [])),
  (4, (.iload_n 3, 5, 3, .null, [])),
  (5, (.iaload, 6, 0, .null, [])),
  (6, (.istore 5, 8, 5, .null, [])),
  (8, (.iconst 0, 9, 0, .int (0 : Int32), [])),
  (9, (.istore 6, 11, 6, .null, [])),
  (11, (.iload 6, 13, 6, .null, [])),
  (13, (.bipush 8, 15, 0, .int (8 : Int32), [])),
  (15, (.if_icmp .ge 35, 18, 50, .null, [])),
  (18, (.iload 5, 20, 5, .null, [])),
  (20, (.aload_n 2, 21, 2, .null, [])),
  (21, (.getfield 54, 24, 54, .null, [])),
  (24, (.iload 4, 26, 4, .null, [])),
  (26, (.iaload, 27, 0, .null, [])),
  (27, (.iand, 28, 0, .null, [])),
  (28, (.ifCond .eq 6, 31, 34, .null, [])),
  (31, (.iload 6, 33, 6, .null, [])),
  (33, (.ireturn, 34, 0, .null, [])),
  (34, (.aload_n 0, 35, 0, .null, [])),
  (35, (.aload_n 1, 36, 1, .null, [])),
  (36, (.aload_n 2, 37, 2, .null, [])),
  (37, (.iload 5, 39, 5, .null, [])),
  (39, (.invokevirtual 57, 42, 57, .null, [])),
  (42, (.istore 5, 44, 5, .null, [])),
  (44, (.iinc 6 1, 47, 6, .int (1 : Int32), [])),
  (47, (.goto (-36), 50, 11, .null, [])),
  (50, (.bipush (-2), 52, 0, .int (-2 : Int32), [])),
  (52, (.ireturn, 53, 0, .null, []))]
def mTv_leastChanges : List (Nat × XM) := [(57, (4, 1, some 7, FTv_changeOn))]
abbrev BTv_leastChanges : XB := (rTv_leastChanges, XFT_Tv, mTv_leastChanges, 1, XST_Tv)
set_option maxRecDepth 100000 in
theorem kTv_leastChanges : XOK BTv_leastChanges cX7_leastChanges 7 RX7 2 49 := xok_of (cps := []) (K := XKT_Tv) (by decide +kernel) XKT_Tv_ok (fun _ h => absurd h List.not_mem_nil) XFT_Tv_ok (List.forall_mem_cons.mpr ⟨⟨_, _, _, _, _, _, _, STv_changeOn, rfl, rfl, Nat.le_of_ble_eq_true rfl, Nat.le_of_ble_eq_true rfl, cdTv_changeOn, lkTv_57, imTv_changeOn, slTv_changeOn, inTv_changeOn, pmTv_changeOn⟩, fun _ h => absurd h List.not_mem_nil⟩) XST_Tv_ok
def wTv_leastChanges_11 (f : Nat → Nat → Nat → Int32 → Int32 → Int32 → XH → XR) : List Value → List Value → XH → XR := fun vs st h => match vs, st with
  | [.ref a0, .ref a1, .ref a2, .int x4, .int x5, .int x6], [] => f a0 a1 a2 x4 x5 x6 h
  | _, _ => none
def wTv_leastChanges (f : Nat → Nat → Nat → Int32 → Int32 → XH → XR) : List Value → List Value → XH → XR := fun vs st h => match vs, st with
  | [.ref a0, .ref a1, .ref a2, .int x3, .int x4], [] => f a0 a1 a2 x3 x4 h
  | _, _ => none
set_option maxRecDepth 100000 in
theorem eTv_leastChanges_11_b (k11 : Nat → Nat → Nat → Int32 → Int32 → Int32 → XH → XR) (a0 : Nat) (a1 : Nat) (a2 : Nat) (x4 : Int32) (x5 : Int32) (x6 : Int32) (h : XH) : qTv_leastChanges_11_b k11 a0 a1 a2 x4 x5 x6 h = xrun BTv_leastChanges (xfind [(11, ([0, 1, 2, 4, 5, 6], wTv_leastChanges_11 (k11)))]) 32 11 (List.zip [0, 1, 2, 4, 5, 6] [.ref a0, .ref a1, .ref a2, .int x4, .int x5, .int x6]) [] h := rfl
theorem tTv_leastChanges_11_b {k11 : Nat → Nat → Nat → Int32 → Int32 → Int32 → XH → XR} (hk11 : XTo cX7_leastChanges 7 RX7 1 2 49 11 [0, 1, 2, 4, 5, 6] (wTv_leastChanges_11 k11)) : XTo cX7_leastChanges 7 RX7 1 2 49 11 [0, 1, 2, 4, 5, 6] (wTv_leastChanges_11 (qTv_leastChanges_11_b k11)) := by
  refine XTo.run (B := BTv_leastChanges) (cut := xfind [(11, ([0, 1, 2, 4, 5, 6], wTv_leastChanges_11 (k11)))]) kTv_leastChanges (xcuts_ok (List.forall_mem_cons.mpr ⟨hk11, fun _ h => absurd h List.not_mem_nil⟩)) 32 (fun vs st h r hr => ?_)
  unfold wTv_leastChanges_11 at hr
  split at hr
  · exact (eTv_leastChanges_11_b k11 _ _ _ _ _ _ _).symm.trans hr
  · cases hr
theorem tTv_leastChanges_11 : ∀ n : Nat, XTo cX7_leastChanges 7 RX7 1 2 49 11 [0, 1, 2, 4, 5, 6] (wTv_leastChanges_11 (qTv_leastChanges_11 n)) := by
  intro n
  induction n with
  | zero =>
    refine XTo.none fun vs st h => ?_
    unfold wTv_leastChanges_11
    split <;> rfl
  | succ n ih => exact tTv_leastChanges_11_b  ih
set_option maxRecDepth 100000 in
theorem eTv_leastChanges (a0 : Nat) (a1 : Nat) (a2 : Nat) (x3 : Int32) (x4 : Int32) (h : XH) : qTv_leastChanges a0 a1 a2 x3 x4 h = xrun BTv_leastChanges (xfind [(11, ([0, 1, 2, 4, 5, 6], wTv_leastChanges_11 (qTv_leastChanges_11 LF)))]) 32 0 (List.zip [0, 1, 2, 3, 4] [.ref a0, .ref a1, .ref a2, .int x3, .int x4]) [] h := rfl
theorem tTv_leastChanges : XTo cX7_leastChanges 7 RX7 1 2 49 0 [0, 1, 2, 3, 4] (wTv_leastChanges (qTv_leastChanges)) := by
  refine XTo.run (B := BTv_leastChanges) (cut := xfind [(11, ([0, 1, 2, 4, 5, 6], wTv_leastChanges_11 (qTv_leastChanges_11 LF)))]) kTv_leastChanges (xcuts_ok (List.forall_mem_cons.mpr ⟨tTv_leastChanges_11 LF, fun _ h => absurd h List.not_mem_nil⟩)) 32 (fun vs st h r hr => ?_)
  unfold wTv_leastChanges at hr
  split at hr
  · exact (eTv_leastChanges _ _ _ _ _ _).symm.trans hr
  · cases hr
def FTv_leastChanges : List Value → XH → XR := fun vs h => match vs with
  | [.ref a0, .ref a1, .ref a2, .int x3, .int x4] => qTv_leastChanges a0 a1 a2 x3 x4 h
  | _ => none
theorem STv_leastChanges : XS yX7_leastChanges cX7_leastChanges 7 (some .int) (xrm 2 49) FTv_leastChanges := by
  refine XS.of (own := RX7) (by decide) rfl (rk := 1) rfl (tTv_leastChanges) (fun vs h r hr => ?_)
  unfold FTv_leastChanges at hr
  split at hr
  · exact ⟨rfl, Nat.le_of_ble_eq_true rfl, hr⟩
  · cases hr
-- LineDiagram.changes(IIII)I
def rD_changes : List (Nat × XRow) := [(0, (.aload_n 0, 1, 0, .null, [])),
  (1, (.iload_n 1, 2, 1, .null, [])),
  (2, (.iload_n 2, 3, 2, .null, [])),
  (3, (.invokevirtual 151, 6, 151, .null, [])),
  (6, (.ifCond .eq 13, 9, 19, .null, [])),
  (9, (.aload_n 0, 10, 0, .null, [])),
  (10, (.iload_n 3, 11, 3, .null, [])),
  (11, (.iload 4, 13, 4, .null, [])),
  (13, (.invokevirtual 151, 16, 151, .null, [])),
  (16, (.ifCond .ne 5, 19, 21, .null, [])),
  (19, (.iconst (-1), 20, 0, .int (-1 : Int32), [])),
  (20, (.ireturn, 21, 0, .null, [])),
  (21, (.aload_n 0, 22, 0, .null, [])),
  (22, (.getfield 61, 25, 61, .null, [])),
  (25, (.aload_n 0, 26, 0, .null, [])),
  (26, (.getfield 29, 29, 29, .null, [])),
  (29, (.aload_n 0, 30, 0, .null, [])),
  (30, (.getfield 54, 33, 54, .null, [])),
  (33, (.aload_n 0, 34, 0, .null, [])),
  (34, (.getfield 54, 37, 54, .null, [])),
  (37, (.iload_n 1, 38, 1, .null, [])),
  (38, (.iload_n 2, 39, 2, .null, [])),
  (39, (.invokevirtual 157, 42, 157, .null, [])),
  (42, (.aload_n 0, 43, 0, .null, [])),
  (43, (.getfield 54, 46, 54, .null, [])),
  (46, (.iload_n 3, 47, 3, .null, [])),
  (47, (.iload 4, 49, 4, .null, [])),
  (49, (.invokevirtual 157, 52, 157, .null, [])),
  (52, (.invokevirtual 310, 55, 310, .null, [])),
  (55, (.ireturn, 56, 0, .null, []))]
def mD_changes : List (Nat × XM) := [(151, (3, 1, some 8, FD_isStation)), (157, (3, 1, some 0, FB_stationCell)), (310, (5, 1, some 7, FTv_leastChanges))]
abbrev BD_changes : XB := (rD_changes, XFT_D, mD_changes, 1, XST_D)
set_option maxRecDepth 100000 in
theorem kD_changes : XOK BD_changes cX8_changes 5 RX8 3 75 := xok_of (cps := []) (K := XKT_D) (by decide +kernel) XKT_D_ok (fun _ h => absurd h List.not_mem_nil) XFT_D_ok (List.forall_mem_cons.mpr ⟨⟨_, _, _, _, _, _, _, SD_isStation, rfl, rfl, Nat.le_of_ble_eq_true rfl, Nat.le_of_ble_eq_true rfl, cdD_isStation, lkD_151, imD_isStation, slD_isStation, inD_isStation, pmD_isStation⟩, List.forall_mem_cons.mpr ⟨⟨_, _, _, _, _, _, _, SB_stationCell, rfl, rfl, Nat.le_of_ble_eq_true rfl, Nat.le_of_ble_eq_true rfl, cdB_stationCell, lkD_157, imB_stationCell, slB_stationCell, inB_stationCell, pmB_stationCell⟩, List.forall_mem_cons.mpr ⟨⟨_, _, _, _, _, _, _, STv_leastChanges, rfl, rfl, Nat.le_of_ble_eq_true rfl, Nat.le_of_ble_eq_true rfl, cdTv_leastChanges, lkD_310, imTv_leastChanges, slTv_leastChanges, inTv_leastChanges, pmTv_leastChanges⟩, fun _ h => absurd h List.not_mem_nil⟩⟩⟩) XST_D_ok
def wD_changes (f : Nat → Int32 → Int32 → Int32 → Int32 → XH → XR) : List Value → List Value → XH → XR := fun vs st h => match vs, st with
  | [.ref a0, .int x1, .int x2, .int x3, .int x4], [] => f a0 x1 x2 x3 x4 h
  | _, _ => none
set_option maxRecDepth 100000 in
theorem eD_changes (a0 : Nat) (x1 : Int32) (x2 : Int32) (x3 : Int32) (x4 : Int32) (h : XH) : qD_changes a0 x1 x2 x3 x4 h = xrun BD_changes (xfind []) 33 0 (List.zip [0, 1, 2, 3, 4] [.ref a0, .int x1, .int x2, .int x3, .int x4]) [] h := rfl
theorem tD_changes : XTo cX8_changes 5 RX8 1 3 75 0 [0, 1, 2, 3, 4] (wD_changes (qD_changes)) := by
  refine XTo.run (B := BD_changes) (cut := xfind []) kD_changes (xcuts_ok (fun _ h => absurd h List.not_mem_nil)) 33 (fun vs st h r hr => ?_)
  unfold wD_changes at hr
  split at hr
  · exact (eD_changes _ _ _ _ _ _).symm.trans hr
  · cases hr
def FD_changes : List Value → XH → XR := fun vs h => match vs with
  | [.ref a0, .int x1, .int x2, .int x3, .int x4] => qD_changes a0 x1 x2 x3 x4 h
  | _ => none
theorem SD_changes : XS yX8_changes cX8_changes 5 (some .int) (xrm 3 75) FD_changes := by
  refine XS.of (own := RX8) (by decide) rfl (rk := 1) rfl (tD_changes) (fun vs h r hr => ?_)
  unfold FD_changes at hr
  split at hr
  · exact ⟨rfl, Nat.le_of_ble_eq_true rfl, hr⟩
  · cases hr
