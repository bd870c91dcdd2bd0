-- LineDiagram$Plan.copyFrom(LLineDiagram$Plan;)V
def rP_copyFrom : List (Nat × XRow) := [(0, (.aload_n 0, 1, 0, .null, [])),
  (1, (.aload_n 1, 2, 1, .null, [])),
  (2, (.getfield 25, 5, 25, .null, [])),
  (5, (.putfield 25, 8, 25, .null, [])),
  (8, (.aload_n 0, 9, 0, .null, [])),
  (9, (.aload_n 1, 10, 1, .null, [])),
  (10, (.getfield 29, 13, 29, .null, [])),
  (13, (.putfield 29, 16, 29, .null, [])),
  (16, (.aload_n 0, 17, 0, .null, [])),
  (17, (.aload_n 1, 18, 1, .null, [])),
  (18, (.getfield 32, 21, 32, .null, [])),
  (21, (.putfield 32, 24, 32, .null, [])),
  (24, (.aload_n 0, 25, 0, .null, [])),
  (25, (.aload_n 1, 26, 1, .null, [])),
  (26, (.getfield 35, 29, 35, .null, [])),
  (29, (.putfield 35, 32, 35, .null, [])),
  (32, (.iconst 0, 33, 0, .int (0 : Int32), [])),
  (33, (.istore_n 2, 34, 2, .null, [])),
  (34, (.iload_n 2, 35, 2, .null, [])),
  (35, (.aload_n 0, 36, 0, .null, [])),
  (36, (.getfield 35, 39, 35, .null, [])),
  (39, (.if_icmp .ge 24, 42, 63, .null, [])),
  (42, (.aload_n 0, 43, 0, .null, [])),
  (43, (.getfield 11, 46, 11, .null, [])),
  (46, (.iload_n 2, 47, 2, .null, [])),
  (47, (.aaload, 48, 0, .null, [])),
  (48, (.aload_n 1, 49, 1, .null, [])),
  (49, (.getfield 11, 52, 11, .null, [])),
  (52, (.iload_n 2, 53, 2, .null, [])),
  (53, (.aaload, 54, 0, .null, [])),
  (54, (.invokevirtual 41, 57, 41, .null, [])),
  (57, (.iinc 2 1, 60, 2, .int (1 : Int32), [])),
  (60, (.goto (-26), 63, 34, .null, [])),
  (63, (.aload_n 0, 64, 0, .null, [])),
  (64, (.getfield 20, 67, 20, .null, [])),
  (67, (.aload_n 1, 68, 1, .null, [])),
  (68, (.getfield 20, 71, 20, .null, [])),
  (71, (.invokevirtual 45, 74, 45, .null, [])),
  (74, (.return_, 75, 0, .null, []))]
def mP_copyFrom : List (Nat × XM) := [(41, (2, 0, some 3, FLn_copyFrom)), (45, (2, 0, some 2, FLb_copyFrom))]
abbrev BP_copyFrom : XB := (rP_copyFrom, XFT_P, mP_copyFrom, 0, XST_P)
set_option maxRecDepth 100000 in
theorem kP_copyFrom : XOK BP_copyFrom cX5_copyFrom 3 RX5 2 85 := xok_of (cps := []) (K := XKT_P) (by decide +kernel) XKT_P_ok (fun _ h => absurd h List.not_mem_nil) XFT_P_ok (List.forall_mem_cons.mpr ⟨⟨_, _, _, _, _, _, _, SLn_copyFrom, rfl, rfl, Nat.le_of_ble_eq_true rfl, Nat.le_of_ble_eq_true rfl, cdLn_copyFrom, lkP_41, imLn_copyFrom, slLn_copyFrom, inLn_copyFrom, pmLn_copyFrom⟩, List.forall_mem_cons.mpr ⟨⟨_, _, _, _, _, _, _, SLb_copyFrom, rfl, rfl, Nat.le_of_ble_eq_true rfl, Nat.le_of_ble_eq_true rfl, cdLb_copyFrom, lkP_45, imLb_copyFrom, slLb_copyFrom, inLb_copyFrom, pmLb_copyFrom⟩, fun _ h => absurd h List.not_mem_nil⟩⟩) XST_P_ok
def wP_copyFrom_63 (f : Nat → Nat → XH → XR) : List Value → List Value → XH → XR := fun vs st h => match vs, st with
  | [.ref a0, .ref a1], [] => f a0 a1 h
  | _, _ => none
def wP_copyFrom_34 (f : Nat → Nat → Int32 → XH → XR) : List Value → List Value → XH → XR := fun vs st h => match vs, st with
  | [.ref a0, .ref a1, .int x2], [] => f a0 a1 x2 h
  | _, _ => none
def wP_copyFrom (f : Nat → Nat → XH → XR) : List Value → List Value → XH → XR := fun vs st h => match vs, st with
  | [.ref a0, .ref a1], [] => f a0 a1 h
  | _, _ => none
set_option maxRecDepth 100000 in
theorem eP_copyFrom_63 (a0 : Nat) (a1 : Nat) (h : XH) : qP_copyFrom_63 a0 a1 h = xrun BP_copyFrom (xfind []) 42 63 (List.zip [0, 1] [.ref a0, .ref a1]) [] h := rfl
theorem tP_copyFrom_63 : XTo cX5_copyFrom 3 RX5 0 2 85 63 [0, 1] (wP_copyFrom_63 (qP_copyFrom_63)) := by
  refine XTo.run (B := BP_copyFrom) (cut := xfind []) kP_copyFrom (xcuts_ok (fun _ h => absurd h List.not_mem_nil)) 42 (fun vs st h r hr => ?_)
  unfold wP_copyFrom_63 at hr
  split at hr
  · exact (eP_copyFrom_63 _ _ _).symm.trans hr
  · cases hr
set_option maxRecDepth 100000 in
theorem eP_copyFrom_34_b (k34 : Nat → Nat → Int32 → XH → XR) (a0 : Nat) (a1 : Nat) (x2 : Int32) (h : XH) : qP_copyFrom_34_b k34 a0 a1 x2 h = xrun BP_copyFrom (xfind [(34, ([0, 1, 2], wP_copyFrom_34 (k34))), (63, ([0, 1], wP_copyFrom_63 (qP_copyFrom_63)))]) 42 34 (List.zip [0, 1, 2] [.ref a0, .ref a1, .int x2]) [] h := rfl
theorem tP_copyFrom_34_b {k34 : Nat → Nat → Int32 → XH → XR} (hk34 : XTo cX5_copyFrom 3 RX5 0 2 85 34 [0, 1, 2] (wP_copyFrom_34 k34)) : XTo cX5_copyFrom 3 RX5 0 2 85 34 [0, 1, 2] (wP_copyFrom_34 (qP_copyFrom_34_b k34)) := by
  refine XTo.run (B := BP_copyFrom) (cut := xfind [(34, ([0, 1, 2], wP_copyFrom_34 (k34))), (63, ([0, 1], wP_copyFrom_63 (qP_copyFrom_63)))]) kP_copyFrom (xcuts_ok (List.forall_mem_cons.mpr ⟨hk34, List.forall_mem_cons.mpr ⟨tP_copyFrom_63, fun _ h => absurd h List.not_mem_nil⟩⟩)) 42 (fun vs st h r hr => ?_)
  unfold wP_copyFrom_34 at hr
  split at hr
  · exact (eP_copyFrom_34_b k34 _ _ _ _).symm.trans hr
  · cases hr
theorem tP_copyFrom_34 : ∀ n : Nat, XTo cX5_copyFrom 3 RX5 0 2 85 34 [0, 1, 2] (wP_copyFrom_34 (qP_copyFrom_34 n)) := by
  intro n
  induction n with
  | zero =>
    refine XTo.none fun vs st h => ?_
    unfold wP_copyFrom_34
    split <;> rfl
  | succ n ih => exact tP_copyFrom_34_b  ih
set_option maxRecDepth 100000 in
theorem eP_copyFrom (a0 : Nat) (a1 : Nat) (h : XH) : qP_copyFrom a0 a1 h = xrun BP_copyFrom (xfind [(34, ([0, 1, 2], wP_copyFrom_34 (qP_copyFrom_34 LF)))]) 42 0 (List.zip [0, 1] [.ref a0, .ref a1]) [] h := rfl
theorem tP_copyFrom : XTo cX5_copyFrom 3 RX5 0 2 85 0 [0, 1] (wP_copyFrom (qP_copyFrom)) := by
  refine XTo.run (B := BP_copyFrom) (cut := xfind [(34, ([0, 1, 2], wP_copyFrom_34 (qP_copyFrom_34 LF)))]) kP_copyFrom (xcuts_ok (List.forall_mem_cons.mpr ⟨tP_copyFrom_34 LF, fun _ h => absurd h List.not_mem_nil⟩)) 42 (fun vs st h r hr => ?_)
  unfold wP_copyFrom at hr
  split at hr
  · exact (eP_copyFrom _ _ _).symm.trans hr
  · cases hr
def FP_copyFrom : List Value → XH → XR := fun vs h => match vs with
  | [.ref a0, .ref a1] => qP_copyFrom a0 a1 h
  | _ => none
theorem SP_copyFrom : XS yX5_copyFrom cX5_copyFrom 3 none (xrm 2 85) FP_copyFrom := by
  refine XS.of (own := RX5) (by decide) rfl (rk := 0) rfl (tP_copyFrom) (fun vs h r hr => ?_)
  unfold FP_copyFrom at hr
  split at hr
  · exact ⟨rfl, Nat.le_of_ble_eq_true rfl, hr⟩
  · cases hr
-- java/util/Arrays.fill([II)V
def rJA_fill : List (Nat × XRow) := [(0, (.iconst 0, 1, 0, .int (0 : Int32), [])),
  (1, (.istore_n 2, 2, 2, .null, [])),
  (2, (.aload_n 0, 3, 0, .null, [])),
  (3, (.arraylength, 4, 0, .null, [])),
  (4, (.istore_n 3, 5, 3, .null, [])),
  (5, (.iload_n 2, 6, 2, .null, [])),
  (6, (.iload_n 3, 7, 3, .null, [])),
  (7, (.if_icmp .ge 13, 10, 20, .null, [])),
  (10, (.aload_n 0, 11, 0, .null, [])),
  (11, (.iload_n 2, 12, 2, .null, [])),
  (12, (.iload_n 1, 13, 1, .null, [])),
  (13, (.iastore, 14, 0, .null, [])),
  (14, (.iinc 2 1, 17, 2, .int (1 : Int32), [])),
  (17, (.goto (-12), 20, 5, .null, [])),
  (20, (.return_, 21, 0, .null, []))]
def mJA_fill : List (Nat × XM) := []
abbrev BJA_fill : XB := (rJA_fill, XFT_JA, mJA_fill, 0, XST_JA)
set_option maxRecDepth 100000 in
theorem kJA_fill : XOK BJA_fill cJ7_fill_53178 4 RJ7 0 0 := xok_of (cps := []) (K := XKT_JA) (by decide +kernel) XKT_JA_ok (fun _ h => absurd h List.not_mem_nil) XFT_JA_ok (fun _ h => absurd h List.not_mem_nil) XST_JA_ok
def wJA_fill_5 (f : Nat → Int32 → Int32 → Int32 → XH → XR) : List Value → List Value → XH → XR := fun vs st h => match vs, st with
  | [.ref a0, .int x1, .int x2, .int x3], [] => f a0 x1 x2 x3 h
  | _, _ => none
def wJA_fill (f : Nat → Int32 → XH → XR) : List Value → List Value → XH → XR := fun vs st h => match vs, st with
  | [.ref a0, .int x1], [] => f a0 x1 h
  | _, _ => none
set_option maxRecDepth 100000 in
theorem eJA_fill_5_b (k5 : Nat → Int32 → Int32 → Int32 → XH → XR) (a0 : Nat) (x1 : Int32) (x2 : Int32) (x3 : Int32) (h : XH) : qJA_fill_5_b k5 a0 x1 x2 x3 h = xrun BJA_fill (xfind [(5, ([0, 1, 2, 3], wJA_fill_5 (k5)))]) 18 5 (List.zip [0, 1, 2, 3] [.ref a0, .int x1, .int x2, .int x3]) [] h := rfl
theorem tJA_fill_5_b {k5 : Nat → Int32 → Int32 → Int32 → XH → XR} (hk5 : XTo cJ7_fill_53178 4 RJ7 0 0 0 5 [0, 1, 2, 3] (wJA_fill_5 k5)) : XTo cJ7_fill_53178 4 RJ7 0 0 0 5 [0, 1, 2, 3] (wJA_fill_5 (qJA_fill_5_b k5)) := by
  refine XTo.run (B := BJA_fill) (cut := xfind [(5, ([0, 1, 2, 3], wJA_fill_5 (k5)))]) kJA_fill (xcuts_ok (List.forall_mem_cons.mpr ⟨hk5, fun _ h => absurd h List.not_mem_nil⟩)) 18 (fun vs st h r hr => ?_)
  unfold wJA_fill_5 at hr
  split at hr
  · exact (eJA_fill_5_b k5 _ _ _ _ _).symm.trans hr
  · cases hr
theorem tJA_fill_5 : ∀ n : Nat, XTo cJ7_fill_53178 4 RJ7 0 0 0 5 [0, 1, 2, 3] (wJA_fill_5 (qJA_fill_5 n)) := by
  intro n
  induction n with
  | zero =>
    refine XTo.none fun vs st h => ?_
    unfold wJA_fill_5
    split <;> rfl
  | succ n ih => exact tJA_fill_5_b  ih
set_option maxRecDepth 100000 in
theorem eJA_fill (a0 : Nat) (x1 : Int32) (h : XH) : qJA_fill a0 x1 h = xrun BJA_fill (xfind [(5, ([0, 1, 2, 3], wJA_fill_5 (qJA_fill_5 LF)))]) 18 0 (List.zip [0, 1] [.ref a0, .int x1]) [] h := rfl
theorem tJA_fill : XTo cJ7_fill_53178 4 RJ7 0 0 0 0 [0, 1] (wJA_fill (qJA_fill)) := by
  refine XTo.run (B := BJA_fill) (cut := xfind [(5, ([0, 1, 2, 3], wJA_fill_5 (qJA_fill_5 LF)))]) kJA_fill (xcuts_ok (List.forall_mem_cons.mpr ⟨tJA_fill_5 LF, fun _ h => absurd h List.not_mem_nil⟩)) 18 (fun vs st h r hr => ?_)
  unfold wJA_fill at hr
  split at hr
  · exact (eJA_fill _ _ _).symm.trans hr
  · cases hr
def FJA_fill : List Value → XH → XR := fun vs h => match vs with
  | [.ref a0, .int x1] => qJA_fill a0 x1 h
  | _ => none
theorem SJA_fill : XS yJ7_fill_53178 cJ7_fill_53178 4 none (xrm 0 0) FJA_fill := by
  refine XS.of (own := RJ7) (by decide) rfl (rk := 0) rfl (tJA_fill) (fun vs h r hr => ?_)
  unfold FJA_fill at hr
  split at hr
  · exact ⟨rfl, Nat.le_of_ble_eq_true rfl, hr⟩
  · cases hr
-- LineDiagram$Board.begin(II)V
def rB_begin : List (Nat × XRow) := [(0, (.aload_n 0, 1, 0, .null, [])),
  (1, (.iload_n 1, 2, 1, .null, [])),
  (2, (.putfield 33, 5, 33, .null, [])),
  (5, (.aload_n 0, 6, 0, .null, [])),
  (6, (.iload_n 2, 7, 2, .null, [])),
  (7, (.putfield 37, 10, 37, .null, [])),
  (10, (.aload_n 0, 11, 0, .null, [])),
  (11, (.getfield 9, 14, 9, .null, [])),
  (14, (.iconst 0, 15, 0, .int (0 : Int32), [])),
  (15, (.invokestatic 40, 18, 40, .null, [])),
  (18, (.aload_n 0, 19, 0, .null, [])),
  (19, (.getfield 15, 22, 15, .null, [])),
  (22, (.iconst 0, 23, 0, .int (0 : Int32), [])),
  (23, (.invokestatic 40, 26, 40, .null, [])),
  (26, (.aload_n 0, 27, 0, .null, [])),
  (27, (.getfield 18, 30, 18, .null, [])),
  (30, (.iconst 0, 31, 0, .int (0 : Int32), [])),
  (31, (.invokestatic 40, 34, 40, .null, [])),
  (34, (.aload_n 0, 35, 0, .null, [])),
  (35, (.getfield 21, 38, 21, .null, [])),
  (38, (.iconst 0, 39, 0, .int (0 : Int32), [])),
  (39, (.invokestatic 40, 42, 40, .null, [])),
  (42, (.aload_n 0, 43, 0, .null, [])),
  (43, (.getfield 24, 46, 24, .null, [])),
  (46, (.iconst 0, 47, 0, .int (0 : Int32), [])),
  (47, (.invokestatic 40, 50, 40, .null, [])),
  (50, (.aload_n 0, 51, 0, .null, [])),
  (51, (.getfield 27, 54, 27, .null, [])),
  (54, (.iconst 0, 55, 0, .int (0 : Int32), [])),
  (55, (.invokestatic 40, 58, 40, .null, [])),
  (58, (.return_, 59, 0, .null, []))]
def mB_begin : List (Nat × XM) := [(40, (2, 0, none, FJA_fill))]
abbrev BB_begin : XB := (rB_begin, XFT_B, mB_begin, 0, XST_B)
set_option maxRecDepth 100000 in
theorem kB_begin : XOK BB_begin cX0_begin 3 RX0 1 23 := xok_of (cps := []) (K := XKT_B) (by decide +kernel) XKT_B_ok (fun _ h => absurd h List.not_mem_nil) XFT_B_ok (List.forall_mem_cons.mpr ⟨⟨_, _, _, _, _, _, SJA_fill, Nat.le_of_ble_eq_true rfl, Nat.le_of_ble_eq_true rfl, cdJA_fill, lkB_40, imJA_fill, inJA_fill, pmJA_fill⟩, fun _ h => absurd h List.not_mem_nil⟩) XST_B_ok
def wB_begin (f : Nat → Int32 → Int32 → XH → XR) : List Value → List Value → XH → XR := fun vs st h => match vs, st with
  | [.ref a0, .int x1, .int x2], [] => f a0 x1 x2 h
  | _, _ => none
set_option maxRecDepth 100000 in
theorem eB_begin (a0 : Nat) (x1 : Int32) (x2 : Int32) (h : XH) : qB_begin a0 x1 x2 h = xrun BB_begin (xfind []) 34 0 (List.zip [0, 1, 2] [.ref a0, .int x1, .int x2]) [] h := rfl
theorem tB_begin : XTo cX0_begin 3 RX0 0 1 23 0 [0, 1, 2] (wB_begin (qB_begin)) := by
  refine XTo.run (B := BB_begin) (cut := xfind []) kB_begin (xcuts_ok (fun _ h => absurd h List.not_mem_nil)) 34 (fun vs st h r hr => ?_)
  unfold wB_begin at hr
  split at hr
  · exact (eB_begin _ _ _ _).symm.trans hr
  · cases hr
def FB_begin : List Value → XH → XR := fun vs h => match vs with
  | [.ref a0, .int x1, .int x2] => qB_begin a0 x1 x2 h
  | _ => none
theorem SB_begin : XS yX0_begin cX0_begin 3 none (xrm 1 23) FB_begin := by
  refine XS.of (own := RX0) (by decide) rfl (rk := 0) rfl (tB_begin) (fun vs h r hr => ?_)
  unfold FB_begin at hr
  split at hr
  · exact ⟨rfl, Nat.le_of_ble_eq_true rfl, hr⟩
  · cases hr
-- LineDiagram.cellAt(II)I
def rD_cellAt : List (Nat × XRow) := [(0, (.iload_n 1, 1, 1, .null, [])),
  (1, (.bipush 40, 3, 0, .int (40 : Int32), [])),
  (3, (.imul, 4, 0, .null, [])),
  (4, (.iload_n 0, 5, 0, .null, [])),
  (5, (.iadd, 6, 0, .null, [])),
  (6, (.ireturn, 7, 0, .null, []))]
def mD_cellAt : List (Nat × XM) := []
abbrev BD_cellAt : XB := (rD_cellAt, XFT_D, mD_cellAt, 1, XST_D)
set_option maxRecDepth 100000 in
theorem kD_cellAt : XOK BD_cellAt cX8_cellAt 2 RX8 0 0 := xok_of (cps := []) (K := XKT_D) (by decide +kernel) XKT_D_ok (fun _ h => absurd h List.not_mem_nil) XFT_D_ok (fun _ h => absurd h List.not_mem_nil) XST_D_ok
def wD_cellAt (f : Int32 → Int32 → XH → XR) : List Value → List Value → XH → XR := fun vs st h => match vs, st with
  | [.int x0, .int x1], [] => f x0 x1 h
  | _, _ => none
set_option maxRecDepth 100000 in
theorem eD_cellAt (x0 : Int32) (x1 : Int32) (h : XH) : qD_cellAt x0 x1 h = xrun BD_cellAt (xfind []) 9 0 (List.zip [0, 1] [.int x0, .int x1]) [] h := rfl
theorem tD_cellAt : XTo cX8_cellAt 2 RX8 1 0 0 0 [0, 1] (wD_cellAt (qD_cellAt)) := by
  refine XTo.run (B := BD_cellAt) (cut := xfind []) kD_cellAt (xcuts_ok (fun _ h => absurd h List.not_mem_nil)) 9 (fun vs st h r hr => ?_)
  unfold wD_cellAt at hr
  split at hr
  · exact (eD_cellAt _ _ _).symm.trans hr
  · cases hr
def FD_cellAt : List Value → XH → XR := fun vs h => match vs with
  | [.int x0, .int x1] => qD_cellAt x0 x1 h
  | _ => none
theorem SD_cellAt : XS yX8_cellAt cX8_cellAt 2 (some .int) (xrm 0 0) FD_cellAt := by
  refine XS.of (own := RX8) (by decide) rfl (rk := 1) rfl (tD_cellAt) (fun vs h r hr => ?_)
  unfold FD_cellAt at hr
  split at hr
  · exact ⟨rfl, Nat.le_of_ble_eq_true rfl, hr⟩
  · cases hr
-- LineDiagram$Line.longOf(I)I
def rLn_longOf : List (Nat × XRow) := [(0, (.aload_n 0, 1, 0, .null, [])),
  (1, (.getfield 28, 4, 28, .null, [])),
  (4, (.iload_n 1, 5, 1, .null, [])),
  (5, (.iconst 3, 6, 0, .int (3 : Int32), [])),
  (6, (.irem, 7, 0, .null, [])),
  (7, (.iadd, 8, 0, .null, [])),
  (8, (.ireturn, 9, 0, .null, []))]
def mLn_longOf : List (Nat × XM) := []
abbrev BLn_longOf : XB := (rLn_longOf, XFT_Ln, mLn_longOf, 1, XST_Ln)
set_option maxRecDepth 100000 in
theorem kLn_longOf : XOK BLn_longOf cX3_longOf 2 RX3 0 0 := xok_of (cps := []) (K := XKT_Ln) (by decide +kernel) XKT_Ln_ok (fun _ h => absurd h List.not_mem_nil) XFT_Ln_ok (fun _ h => absurd h List.not_mem_nil) XST_Ln_ok
def wLn_longOf (f : Nat → Int32 → XH → XR) : List Value → List Value → XH → XR := fun vs st h => match vs, st with
  | [.ref a0, .int x1], [] => f a0 x1 h
  | _, _ => none
set_option maxRecDepth 100000 in
theorem eLn_longOf (a0 : Nat) (x1 : Int32) (h : XH) : qLn_longOf a0 x1 h = xrun BLn_longOf (xfind []) 10 0 (List.zip [0, 1] [.ref a0, .int x1]) [] h := rfl
theorem tLn_longOf : XTo cX3_longOf 2 RX3 1 0 0 0 [0, 1] (wLn_longOf (qLn_longOf)) := by
  refine XTo.run (B := BLn_longOf) (cut := xfind []) kLn_longOf (xcuts_ok (fun _ h => absurd h List.not_mem_nil)) 10 (fun vs st h r hr => ?_)
  unfold wLn_longOf at hr
  split at hr
  · exact (eLn_longOf _ _ _).symm.trans hr
  · cases hr
def FLn_longOf : List Value → XH → XR := fun vs h => match vs with
  | [.ref a0, .int x1] => qLn_longOf a0 x1 h
  | _ => none
theorem SLn_longOf : XS yX3_longOf cX3_longOf 2 (some .int) (xrm 0 0) FLn_longOf := by
  refine XS.of (own := RX3) (by decide) rfl (rk := 1) rfl (tLn_longOf) (fun vs h r hr => ?_)
  unfold FLn_longOf at hr
  split at hr
  · exact ⟨rfl, Nat.le_of_ble_eq_true rfl, hr⟩
  · cases hr
-- LineDiagram$Board.drawStation(LLineDiagram$Line;III)V
def rB_drawStation : List (Nat × XRow) := [(0, (.aload_n 0, 1, 0, .null, [])),
  (1, (.getfield 30, 4, 30, .null, [])),
  (4, (.iload_n 2, 5, 2, .null, [])),
  (5, (.bipush 20, 7, 0, .int (20 : Int32), [])),
  (7, (.imul, 8, 0, .null, [])),
  (8, (.iload_n 3, 9, 3, .null, [])),
  (9, (.iadd, 10, 0, .null, [])),
  (10, (.iload 4, 12, 4, .null, [])),
  (12, (.iastore, 13, 0, .null, [])),
  (13, (.aload_n 0, 14, 0, .null, [])),
  (14, (.getfield 18, 17, 18, .null, [])),
  (17, (.iload 4, 19, 4, .null, [])),
  (19, (.dup2, 20, 0, .null, [])),
  (20, (.iaload, 21, 0, .null, [])),
  (21, (.iconst 1, 22, 0, .int (1 : Int32), [])),
  (22, (.iadd, 23, 0, .null, [])),
  (23, (.iastore, 24, 0, .null, [])),
  (24, (.aload_n 0, 25, 0, .null, [])),
  (25, (.getfield 21, 28, 21, .null, [])),
  (28, (.iload 4, 30, 4, .null, [])),
  (30, (.dup2, 31, 0, .null, [])),
  (31, (.iaload, 32, 0, .null, [])),
  (32, (.iconst 1, 33, 0, .int (1 : Int32), [])),
  (33, (.iload_n 2, 34, 2, .null, [])),
  (34, (.ishl, 35, 0, .null, [])),
  (35, (.ior, 36, 0, .null, [])),
  (36, (.iastore, 37, 0, .null, [])),
  (37, (.aload_n 0, 38, 0, .null, [])),
  (38, (.getfield 24, 41, 24, .null, [])),
  (41, (.iload 4, 43, 4, .null, [])),
  (43, (.aload_n 0, 44, 0, .null, [])),
  (44, (.getfield 24, 47, 24, .null, [])),
  (47, (.iload 4, 49, 4, .null, [])),
  (49, (.iaload, 50, 0, .null, [])),
  (50, (.aload_n 1, 51, 1, .null, [])),
  (51, (.iload_n 3, 52, 3, .null, [])),
  (52, (.invokevirtual 109, 55, 109, .null, [])),
  (55, (.invokestatic 112, 58, 112, .int (2 : Int32), [])),
  (58, (.iastore, 59, 0, .null, [])),
  (59, (.return_, 60, 0, .null, []))]
def mB_drawStation : List (Nat × XM) := [(109, (2, 1, some 3, FLn_longOf))]
abbrev BB_drawStation : XB := (rB_drawStation, XFT_B, mB_drawStation, 0, XST_B)
set_option maxRecDepth 100000 in
theorem kB_drawStation : XOK BB_drawStation cX0_drawStation 5 RX0 1 21 := xok_of (cps := [(112, 2)]) (K := XKT_B) (by decide +kernel) XKT_B_ok (List.forall_mem_cons.mpr ⟨lkB_cp112 _ _ (Nat.le_of_ble_eq_true rfl) (Nat.le_of_ble_eq_true rfl), fun _ h => absurd h List.not_mem_nil⟩) XFT_B_ok (List.forall_mem_cons.mpr ⟨⟨_, _, _, _, _, _, _, SLn_longOf, rfl, rfl, Nat.le_of_ble_eq_true rfl, Nat.le_of_ble_eq_true rfl, cdLn_longOf, lkB_109, imLn_longOf, slLn_longOf, inLn_longOf, pmLn_longOf⟩, fun _ h => absurd h List.not_mem_nil⟩) XST_B_ok
def wB_drawStation (f : Nat → Nat → Int32 → Int32 → Int32 → XH → XR) : List Value → List Value → XH → XR := fun vs st h => match vs, st with
  | [.ref a0, .ref a1, .int x2, .int x3, .int x4], [] => f a0 a1 x2 x3 x4 h
  | _, _ => none
set_option maxRecDepth 100000 in
theorem eB_drawStation (a0 : Nat) (a1 : Nat) (x2 : Int32) (x3 : Int32) (x4 : Int32) (h : XH) : qB_drawStation a0 a1 x2 x3 x4 h = xrun BB_drawStation (xfind []) 43 0 (List.zip [0, 1, 2, 3, 4] [.ref a0, .ref a1, .int x2, .int x3, .int x4]) [] h := rfl
theorem tB_drawStation : XTo cX0_drawStation 5 RX0 0 1 21 0 [0, 1, 2, 3, 4] (wB_drawStation (qB_drawStation)) := by
  refine XTo.run (B := BB_drawStation) (cut := xfind []) kB_drawStation (xcuts_ok (fun _ h => absurd h List.not_mem_nil)) 43 (fun vs st h r hr => ?_)
  unfold wB_drawStation at hr
  split at hr
  · exact (eB_drawStation _ _ _ _ _ _).symm.trans hr
  · cases hr
def FB_drawStation : List Value → XH → XR := fun vs h => match vs with
  | [.ref a0, .ref a1, .int x2, .int x3, .int x4] => qB_drawStation a0 a1 x2 x3 x4 h
  | _ => none
theorem SB_drawStation : XS yX0_drawStation cX0_drawStation 5 none (xrm 1 21) FB_drawStation := by
  refine XS.of (own := RX0) (by decide) rfl (rk := 0) rfl (tB_drawStation) (fun vs h r hr => ?_)
  unfold FB_drawStation at hr
  split at hr
  · exact ⟨rfl, Nat.le_of_ble_eq_true rfl, hr⟩
  · cases hr
-- LineDiagram$Board.drawStep(III)I
def rB_drawStep : List (Nat × XRow) := [(0, (.iload_n 2, 1, 2, .null, [])),
  (1, (.ifCond .lt 9, 4, 10, .null, [])),
  (4, (.iload_n 2, 5, 2, .null, [])),
  (5, (.bipush 8, 7, 0, .int (8 : Int32), [])),
  (7, (.if_icmp .lt 5, 10, 12, .null, [])),
  (10, (.iload_n 1, 11, 1, .null, [])),
  (11, (.ireturn, 12, 0, .null, [])),
  (12, (.iload_n 1, 13, 1, .null, [])),
  (13, (.getstatic 103, 16, 103, .null, [])),
  (16, (.iload_n 2, 17, 2, .null, [])),
  (17, (.iaload, 18, 0, .null, [])),
  (18, (.getstatic 106, 21, 106, .null, [])),
  (21, (.iload_n 2, 22, 2, .null, [])),
  (22, (.iaload, 23, 0, .null, [])),
  (23, (.invokestatic 75, 26, 75, .null, [])),
  (26, (.iadd, 27, 0, .null, [])),
  (27, (.istore 4, 29, 4, .null, [])),
  (29, (.iload 4, 31, 4, .null, [])),
  (31, (.ifCond .lt 11, 34, 42, .null, [])),
  (34, (.iload 4, 36, 4, .null, [])),
  (36, (.sipush 1600, 39, 0, .int (1600 : Int32), [])),
  (39, (.if_icmp .lt 5, 42, 44, .null, [])),
  (42, (.iload_n 1, 43, 1, .null, [])),
  (43, (.ireturn, 44, 0, .null, [])),
  (44, (.iload_n 2, 45, 2, .null, [])),
  (45, (.iconst 4, 46, 0, .int (4 : Int32), [])),
  (46, (.if_icmp .ge 7, 49, 53, .null, [])),
  (49, (.iload_n 1, 50, 1, .null, [])),
  (50, (.goto 5, 53, 55, .null, [])),
  (53, (.iload 4, 55, 4, .null, [])),
  (55, (.istore 5, 57, 5, .null, [])),
  (57, (.aload_n 0, 58, 0, .null, [])),
  (58, (.getfield 15, 61, 15, .null, [])),
  (61, (.iload 5, 63, 5, .null, [])),
  (63, (.dup2, 64, 0, .null, [])),
  (64, (.iaload, 65, 0, .null, [])),
  (65, (.iconst 1, 66, 0, .int (1 : Int32), [])),
  (66, (.bipush 8, 68, 0, .int (8 : Int32), [])),
  (68, (.iload_n 2, 69, 2, .null, [])),
  (69, (.iconst 4, 70, 0, .int (4 : Int32), [])),
  (70, (.irem, 71, 0, .null, [])),
  (71, (.imul, 72, 0, .null, [])),
  (72, (.iload_n 3, 73, 3, .null, [])),
  (73, (.iadd, 74, 0, .null, [])),
  (74, (.ishl, 75, 0, .null, [])),
  (75, (.ior, 76, 0, .null, [])),
  (76, (.iastore, 77, 0, .null, [])),
  (77, (.aload_n 0, 78, 0, .null, [])),
  (78, (.getfield 9, 81, 9, .null, [])),
  (81, (.iload 4, 83, 4, .null, [])),
  (83, (.dup2, 84, 0, .null, [])),
  (84, (.iaload, 85, 0, .null, [])),
  (85, (.iconst 1, 86, 0, .int (1 : Int32), [])),
  (86, (.iload_n 3, 87, 3, .null, [])),
  (87, (.ishl, 88, 0, .null, [])),
  (88, (.ior, 89, 0, .null, [])),
  (89, (.iastore, 90, 0, .null, [])),
  (90, (.iload 4, 92, 4, .null, [])),
  (92, (.ireturn, 93, 0, .null, []))]
def mB_drawStep : List (Nat × XM) := [(75, (2, 1, none, FD_cellAt))]
abbrev BB_drawStep : XB := (rB_drawStep, XFT_B, mB_drawStep, 1, XST_B)
set_option maxRecDepth 100000 in
theorem kB_drawStep : XOK BB_drawStep cX0_drawStep 6 RX0 1 21 := xok_of (cps := []) (K := XKT_B) (by decide +kernel) XKT_B_ok (fun _ h => absurd h List.not_mem_nil) XFT_B_ok (List.forall_mem_cons.mpr ⟨⟨_, _, _, _, _, _, SD_cellAt, Nat.le_of_ble_eq_true rfl, Nat.le_of_ble_eq_true rfl, cdD_cellAt, lkB_75, imD_cellAt, inD_cellAt, pmD_cellAt⟩, fun _ h => absurd h List.not_mem_nil⟩) XST_B_ok
def wB_drawStep_55 (f : Nat → Int32 → Int32 → Int32 → Int32 → XH → XR) : List Value → List Value → XH → XR := fun vs st h => match vs, st with
  | [.ref a0, .int x2, .int x3, .int x4], [.int s0] => f a0 x2 x3 x4 s0 h
  | _, _ => none
def wB_drawStep (f : Nat → Int32 → Int32 → Int32 → XH → XR) : List Value → List Value → XH → XR := fun vs st h => match vs, st with
  | [.ref a0, .int x1, .int x2, .int x3], [] => f a0 x1 x2 x3 h
  | _, _ => none
set_option maxRecDepth 100000 in
theorem eB_drawStep_55 (a0 : Nat) (x2 : Int32) (x3 : Int32) (x4 : Int32) (s0 : Int32) (h : XH) : qB_drawStep_55 a0 x2 x3 x4 s0 h = xrun BB_drawStep (xfind []) 62 55 (List.zip [0, 2, 3, 4] [.ref a0, .int x2, .int x3, .int x4]) [.int s0] h := rfl
theorem tB_drawStep_55 : XTo cX0_drawStep 6 RX0 1 1 21 55 [0, 2, 3, 4] (wB_drawStep_55 (qB_drawStep_55)) := by
  refine XTo.run (B := BB_drawStep) (cut := xfind []) kB_drawStep (xcuts_ok (fun _ h => absurd h List.not_mem_nil)) 62 (fun vs st h r hr => ?_)
  unfold wB_drawStep_55 at hr
  split at hr
  · exact (eB_drawStep_55 _ _ _ _ _ _).symm.trans hr
  · cases hr
set_option maxRecDepth 100000 in
theorem eB_drawStep (a0 : Nat) (x1 : Int32) (x2 : Int32) (x3 : Int32) (h : XH) : qB_drawStep a0 x1 x2 x3 h = xrun BB_drawStep (xfind [(55, ([0, 2, 3, 4], wB_drawStep_55 (qB_drawStep_55)))]) 62 0 (List.zip [0, 1, 2, 3] [.ref a0, .int x1, .int x2, .int x3]) [] h := rfl
theorem tB_drawStep : XTo cX0_drawStep 6 RX0 1 1 21 0 [0, 1, 2, 3] (wB_drawStep (qB_drawStep)) := by
  refine XTo.run (B := BB_drawStep) (cut := xfind [(55, ([0, 2, 3, 4], wB_drawStep_55 (qB_drawStep_55)))]) kB_drawStep (xcuts_ok (List.forall_mem_cons.mpr ⟨tB_drawStep_55, fun _ h => absurd h List.not_mem_nil⟩)) 62 (fun vs st h r hr => ?_)
  unfold wB_drawStep at hr
  split at hr
  · exact (eB_drawStep _ _ _ _ _).symm.trans hr
  · cases hr
def FB_drawStep : List Value → XH → XR := fun vs h => match vs with
  | [.ref a0, .int x1, .int x2, .int x3] => qB_drawStep a0 x1 x2 x3 h
  | _ => none
theorem SB_drawStep : XS yX0_drawStep cX0_drawStep 6 (some .int) (xrm 1 21) FB_drawStep := by
  refine XS.of (own := RX0) (by decide) rfl (rk := 1) rfl (tB_drawStep) (fun vs h r hr => ?_)
  unfold FB_drawStep at hr
  split at hr
  · exact ⟨rfl, Nat.le_of_ble_eq_true rfl, hr⟩
  · cases hr
-- LineDiagram$Line.stepOfStation(II)I
def rLn_stepOfStation : List (Nat × XRow) := [(0, (.aload_n 0, 1, 0, .null, [])),
  (1, (.getfield 25, 4, 25, .null, [])),
  (4, (.iconst 1, 5, 0, .int (1 : Int32), [])),
  (5, (.isub, 6, 0, .null, [])),
  (6, (.istore_n 3, 7, 3, .null, [])),
  (7, (.iload_n 3, 8, 3, .null, [])),
  (8, (.iconst 1, 9, 0, .int (1 : Int32), [])),
  (9, (.if_icmp .ge 7, 12, 16, .null, [])),
  (12, (.iconst 0, 13, 0, .int (0 : Int32), [])),
  (13, (.goto 8, 16, 21, .null, [])),
  (16, (.iload_n 1, 17, 1, .null, [])),
  (17, (.iload_n 2, 18, 2, .null, [])),
  (18, (.imul, 19, 0, .null, [])),
  (19, (.iload_n 3, 20, 3, .null, [])),
  (20, (.idiv, 21, 0, .null, [])),
  (21, (.ireturn, 22, 0, .null, []))]
def mLn_stepOfStation : List (Nat × XM) := []
abbrev BLn_stepOfStation : XB := (rLn_stepOfStation, XFT_Ln, mLn_stepOfStation, 1, XST_Ln)
set_option maxRecDepth 100000 in
theorem kLn_stepOfStation : XOK BLn_stepOfStation cX3_stepOfStation 4 RX3 0 0 := xok_of (cps := []) (K := XKT_Ln) (by decide +kernel) XKT_Ln_ok (fun _ h => absurd h List.not_mem_nil) XFT_Ln_ok (fun _ h => absurd h List.not_mem_nil) XST_Ln_ok
def wLn_stepOfStation (f : Nat → Int32 → Int32 → XH → XR) : List Value → List Value → XH → XR := fun vs st h => match vs, st with
  | [.ref a0, .int x1, .int x2], [] => f a0 x1 x2 h
  | _, _ => none
set_option maxRecDepth 100000 in
theorem eLn_stepOfStation (a0 : Nat) (x1 : Int32) (x2 : Int32) (h : XH) : qLn_stepOfStation a0 x1 x2 h = xrun BLn_stepOfStation (xfind []) 19 0 (List.zip [0, 1, 2] [.ref a0, .int x1, .int x2]) [] h := rfl
theorem tLn_stepOfStation : XTo cX3_stepOfStation 4 RX3 1 0 0 0 [0, 1, 2] (wLn_stepOfStation (qLn_stepOfStation)) := by
  refine XTo.run (B := BLn_stepOfStation) (cut := xfind []) kLn_stepOfStation (xcuts_ok (fun _ h => absurd h List.not_mem_nil)) 19 (fun vs st h r hr => ?_)
  unfold wLn_stepOfStation at hr
  split at hr
  · exact (eLn_stepOfStation _ _ _ _).symm.trans hr
  · cases hr
def FLn_stepOfStation : List Value → XH → XR := fun vs h => match vs with
  | [.ref a0, .int x1, .int x2] => qLn_stepOfStation a0 x1 x2 h
  | _ => none
theorem SLn_stepOfStation : XS yX3_stepOfStation cX3_stepOfStation 4 (some .int) (xrm 0 0) FLn_stepOfStation := by
  refine XS.of (own := RX3) (by decide) rfl (rk := 1) rfl (tLn_stepOfStation) (fun vs h r hr => ?_)
  unfold FLn_stepOfStation at hr
  split at hr
  · exact ⟨rfl, Nat.le_of_ble_eq_true rfl, hr⟩
  · cases hr
-- LineDiagram$Board.drawLine(LLineDiagram$Line;II)V
def rB_drawLine : List (Nat × XRow) := [(0, (.aload_n 1, 1, 1, .null, [])),
  (1, (.getfield 69, 4, 69, .null, [])),
  (4, (.iconst 0, 5, 0, .int (0 : Int32), [])),
  (5, (.iaload, 6, 0, .null, [])),
  (6, (.aload_n 1, 7, 1, .null, [])),
  (7, (.getfield 72, 10, 72, .null, [])),
  (10, (.iconst 0, 11, 0, .int (0 : Int32), [])),
  (11, (.iaload, 12, 0, .null, [])),
  (12, (.invokestatic 75, 15, 75, .null, [])),
  (15, (.istore 4, 17, 4, .null, [])),
  (17, (.iconst 0, 18, 0, .int (0 : Int32), [])),
  (18, (.istore 5, 20, 5, .null, [])),
  (20, (.iconst 1, 21, 0, .int (1 : Int32), [])),
  (21, (.istore 6, 23, 6, .null, [])),
  (23, (.aload_n 0, 24, 0, .null, [])),
  (24, (.getfield 9, 27, 9, .null, [])),
  (27, (.iload 4, 29, 4, .null, [])),
  (29, (.dup2, 30, 0, .null, [])),
  (30, (.iaload, 31, 0, .null, [])),
  (31, (.iconst 1, 32, 0, .int (1 : Int32), [])),
  (32, (.iload_n 2, 33, 2, .null, [])),
  (33, (.ishl, 34, 0, .null, [])),
  (34, (.ior, 35, 0, .null, [])),
  (35, (.iastore, 36, 0, .null, [])),
  (36, (.aload_n 0, 37, 0, .null, [])),
  (37, (.aload_n 1, 38, 1, .null, [])),
  (38, (.iload_n 2, 39, 2, .null, [])),
  (39, (.iconst 0, 40, 0, .int (0 : Int32), [])),
  (40, (.iload 4, 42, 4, .null, [])),
  (42, (.invokevirtual 79, 45, 79, .null, [])),
  (45, (.iconst 0, 46, 0, .int (0 : Int32), [])),
  (46, (.istore 7, 48, 7, .null, [])),
  (48, (.iload 7, 50, 7, .null, [])),
  (50, (.aload_n 1, 51, 1, .null, [])),
  (51, (.getfield 83, 54, 83, .null, [])),
  (54, (.iconst 1, 55, 0, .int (1 : Int32), [])),
  (55, (.isub, 56, 0, .null, [])),
  (56, (.if_icmp .ge 84, 59, 140, .null, [])),
  (59, (.aload_n 1, 60, 1, .null, [])),
  (60, (.iload 7, 62, 7, .null, [])),
  (62, (.invokevirtual 86, 65, 86, .null, [])),
  (65, (.istore 8, 67, 8, .null, [])),
  (67, (.aload_n 1, 68, 1, .null, [])),
  (68, (.iload 7, 70, 7, .null, [])),
  (70, (.invokevirtual 90, 73, 90, .null, [])),
  (73, (.istore 9, 75, 9, .null, [])),
  (75, (.iload 9, 77, 9, .null, [])),
  (77, (.ifCond .le 57, 80, 134, .null, [])),
  (80, (.aload_n 0, 81, 0, .null, [])),
  (81, (.iload 4, 83, 4, .null, [])),
  (83, (.iload 8, 85, 8, .null, [])),
  (85, (.iload_n 2, 86, 2, .null, [])),
  (86, (.invokevirtual 93, 89, 93, .null, [])),
  (89, (.istore 4, 91, 4, .null, [])),
  (91, (.iinc 5 1, 94, 5, .int (1 : Int32), [])),
  (94, (.iload 6, 96, 6, .null, [])),
  (96, (.aload_n 1, 97, 1, .null, [])),
  (97, (.getfield 97, 100, 97, .null, [])),
  (100, (.if_icmp .ge 28, 103, 128, .null, [])),
  (103, (.aload_n 1, 104, 1, .null, [])),
  (104, (.iload 6, 106, 6, .null, [])),
  (106, (.iload_n 3, 107, 3, .null, [])),
  (107, (.invokevirtual 100, 110, 100, .null, [])),
  (110, (.iload 5, 112, 5, .null, [])),
  (112, (.if_icmp .ne 16, 115, 128, .null, [])),
  (115, (.aload_n 0, 116, 0, .null, [])),
  (116, (.aload_n 1, 117, 1, .null, [])),
  (117, (.iload_n 2, 118, 2, .null, [])),
  (118, (.iload 6, 120, 6, .null, [])),
  (120, (.iload 4, 122, 4, .null, [])),
  (122, (.invokevirtual 79, 125, 79, .null, [])),
  (125, (.iinc 6 1, 128, 6, .int (1 : Int32), [])),
  (128, (.iinc 9 (-1), 131, 9, .int (-1 : Int32), [])),
  (131, (.goto (-56), 134, 75, .null, [])),
  (134, (.iinc 7 1, 137, 7, .int (1 : Int32), [])),
  (137, (.goto (-89), 140, 48, .null, [])),
  (140, (.return_, 141, 0, .null, []))]
def mB_drawLine : List (Nat × XM) := [(75, (2, 1, none, FD_cellAt)), (79, (5, 0, some 0, FB_drawStation)), (86, (2, 1, some 3, FLn_wayOfRun)), (90, (2, 1, some 3, FLn_stepsOfRun)), (93, (4, 1, some 0, FB_drawStep)), (100, (3, 1, some 3, FLn_stepOfStation))]
abbrev BB_drawLine : XB := (rB_drawLine, XFT_B, mB_drawLine, 0, XST_B)
set_option maxRecDepth 100000 in
theorem kB_drawLine : XOK BB_drawLine cX0_drawLine 10 RX0 2 46 := xok_of (cps := []) (K := XKT_B) (by decide +kernel) XKT_B_ok (fun _ h => absurd h List.not_mem_nil) XFT_B_ok (List.forall_mem_cons.mpr ⟨⟨_, _, _, _, _, _, SD_cellAt, Nat.le_of_ble_eq_true rfl, Nat.le_of_ble_eq_true rfl, cdD_cellAt, lkB_75, imD_cellAt, inD_cellAt, pmD_cellAt⟩, List.forall_mem_cons.mpr ⟨⟨_, _, _, _, _, _, _, SB_drawStation, rfl, rfl, Nat.le_of_ble_eq_true rfl, Nat.le_of_ble_eq_true rfl, cdB_drawStation, lkB_79, imB_drawStation, slB_drawStation, inB_drawStation, pmB_drawStation⟩, List.forall_mem_cons.mpr ⟨⟨_, _, _, _, _, _, _, SLn_wayOfRun, rfl, rfl, Nat.le_of_ble_eq_true rfl, Nat.le_of_ble_eq_true rfl, cdLn_wayOfRun, lkB_86, imLn_wayOfRun, slLn_wayOfRun, inLn_wayOfRun, pmLn_wayOfRun⟩, List.forall_mem_cons.mpr ⟨⟨_, _, _, _, _, _, _, SLn_stepsOfRun, rfl, rfl, Nat.le_of_ble_eq_true rfl, Nat.le_of_ble_eq_true rfl, cdLn_stepsOfRun, lkB_90, imLn_stepsOfRun, slLn_stepsOfRun, inLn_stepsOfRun, pmLn_stepsOfRun⟩, List.forall_mem_cons.mpr ⟨⟨_, _, _, _, _, _, _, SB_drawStep, rfl, rfl, Nat.le_of_ble_eq_true rfl, Nat.le_of_ble_eq_true rfl, cdB_drawStep, lkB_93, imB_drawStep, slB_drawStep, inB_drawStep, pmB_drawStep⟩, List.forall_mem_cons.mpr ⟨⟨_, _, _, _, _, _, _, SLn_stepOfStation, rfl, rfl, Nat.le_of_ble_eq_true rfl, Nat.le_of_ble_eq_true rfl, cdLn_stepOfStation, lkB_100, imLn_stepOfStation, slLn_stepOfStation, inLn_stepOfStation, pmLn_stepOfStation⟩, fun _ h => absurd h List.not_mem_nil⟩⟩⟩⟩⟩⟩) XST_B_ok
def wB_drawLine_75 (f : Nat → Nat → Int32 → Int32 → Int32 → Int32 → Int32 → Int32 → Int32 → Int32 → XH → XR) : List Value → List Value → XH → XR := fun vs st h => match vs, st with
  | [.ref a0, .ref a1, .int x2, .int x3, .int x4, .int x5, .int x6, .int x7, .int x8, .int x9], [] => f a0 a1 x2 x3 x4 x5 x6 x7 x8 x9 h
  | _, _ => none
def wB_drawLine_48 (f : Nat → Nat → Int32 → Int32 → Int32 → Int32 → Int32 → Int32 → XH → XR) : List Value → List Value → XH → XR := fun vs st h => match vs, st with
  | [.ref a0, .ref a1, .int x2, .int x3, .int x4, .int x5, .int x6, .int x7], [] => f a0 a1 x2 x3 x4 x5 x6 x7 h
  | _, _ => none
def wB_drawLine (f : Nat → Nat → Int32 → Int32 → XH → XR) : List Value → List Value → XH → XR := fun vs st h => match vs, st with
  | [.ref a0, .ref a1, .int x2, .int x3], [] => f a0 a1 x2 x3 h
  | _, _ => none
set_option maxRecDepth 100000 in
theorem eB_drawLine_75_b (k48 : Nat → Nat → Int32 → Int32 → Int32 → Int32 → Int32 → Int32 → XH → XR) (k75 : Nat → Nat → Int32 → Int32 → Int32 → Int32 → Int32 → Int32 → Int32 → Int32 → XH → XR) (a0 : Nat) (a1 : Nat) (x2 : Int32) (x3 : Int32) (x4 : Int32) (x5 : Int32) (x6 : Int32) (x7 : Int32) (x8 : Int32) (x9 : Int32) (h : XH) : qB_drawLine_75_b k48 k75 a0 a1 x2 x3 x4 x5 x6 x7 x8 x9 h = xrun BB_drawLine (xfind [(48, ([0, 1, 2, 3, 4, 5, 6, 7], wB_drawLine_48 (k48))), (75, ([0, 1, 2, 3, 4, 5, 6, 7, 8, 9], wB_drawLine_75 (k75)))]) 80 75 (List.zip [0, 1, 2, 3, 4, 5, 6, 7, 8, 9] [.ref a0, .ref a1, .int x2, .int x3, .int x4, .int x5, .int x6, .int x7, .int x8, .int x9]) [] h := rfl
theorem tB_drawLine_75_b {k48 : Nat → Nat → Int32 → Int32 → Int32 → Int32 → Int32 → Int32 → XH → XR} {k75 : Nat → Nat → Int32 → Int32 → Int32 → Int32 → Int32 → Int32 → Int32 → Int32 → XH → XR} (hk48 : XTo cX0_drawLine 10 RX0 0 2 46 48 [0, 1, 2, 3, 4, 5, 6, 7] (wB_drawLine_48 k48)) (hk75 : XTo cX0_drawLine 10 RX0 0 2 46 75 [0, 1, 2, 3, 4, 5, 6, 7, 8, 9] (wB_drawLine_75 k75)) : XTo cX0_drawLine 10 RX0 0 2 46 75 [0, 1, 2, 3, 4, 5, 6, 7, 8, 9] (wB_drawLine_75 (qB_drawLine_75_b k48 k75)) := by
  refine XTo.run (B := BB_drawLine) (cut := xfind [(48, ([0, 1, 2, 3, 4, 5, 6, 7], wB_drawLine_48 (k48))), (75, ([0, 1, 2, 3, 4, 5, 6, 7, 8, 9], wB_drawLine_75 (k75)))]) kB_drawLine (xcuts_ok (List.forall_mem_cons.mpr ⟨hk48, List.forall_mem_cons.mpr ⟨hk75, fun _ h => absurd h List.not_mem_nil⟩⟩)) 80 (fun vs st h r hr => ?_)
  unfold wB_drawLine_75 at hr
  split at hr
  · exact (eB_drawLine_75_b k48 k75 _ _ _ _ _ _ _ _ _ _ _).symm.trans hr
  · cases hr
theorem tB_drawLine_75 {k48 : Nat → Nat → Int32 → Int32 → Int32 → Int32 → Int32 → Int32 → XH → XR} (hk48 : XTo cX0_drawLine 10 RX0 0 2 46 48 [0, 1, 2, 3, 4, 5, 6, 7] (wB_drawLine_48 k48)) : ∀ n : Nat, XTo cX0_drawLine 10 RX0 0 2 46 75 [0, 1, 2, 3, 4, 5, 6, 7, 8, 9] (wB_drawLine_75 (qB_drawLine_75 k48 n)) := by
  intro n
  induction n with
  | zero =>
    refine XTo.none fun vs st h => ?_
    unfold wB_drawLine_75
    split <;> rfl
  | succ n ih => exact tB_drawLine_75_b hk48 ih
set_option maxRecDepth 100000 in
theorem eB_drawLine_48_b (k48 : Nat → Nat → Int32 → Int32 → Int32 → Int32 → Int32 → Int32 → XH → XR) (a0 : Nat) (a1 : Nat) (x2 : Int32) (x3 : Int32) (x4 : Int32) (x5 : Int32) (x6 : Int32) (x7 : Int32) (h : XH) : qB_drawLine_48_b k48 a0 a1 x2 x3 x4 x5 x6 x7 h = xrun BB_drawLine (xfind [(75, ([0, 1, 2, 3, 4, 5, 6, 7, 8, 9], wB_drawLine_75 (qB_drawLine_75 k48 LF)))]) 80 48 (List.zip [0, 1, 2, 3, 4, 5, 6, 7] [.ref a0, .ref a1, .int x2, .int x3, .int x4, .int x5, .int x6, .int x7]) [] h := rfl
theorem tB_drawLine_48_b {k48 : Nat → Nat → Int32 → Int32 → Int32 → Int32 → Int32 → Int32 → XH → XR} (hk48 : XTo cX0_drawLine 10 RX0 0 2 46 48 [0, 1, 2, 3, 4, 5, 6, 7] (wB_drawLine_48 k48)) : XTo cX0_drawLine 10 RX0 0 2 46 48 [0, 1, 2, 3, 4, 5, 6, 7] (wB_drawLine_48 (qB_drawLine_48_b k48)) := by
  refine XTo.run (B := BB_drawLine) (cut := xfind [(75, ([0, 1, 2, 3, 4, 5, 6, 7, 8, 9], wB_drawLine_75 (qB_drawLine_75 k48 LF)))]) kB_drawLine (xcuts_ok (List.forall_mem_cons.mpr ⟨tB_drawLine_75 hk48 LF, fun _ h => absurd h List.not_mem_nil⟩)) 80 (fun vs st h r hr => ?_)
  unfold wB_drawLine_48 at hr
  split at hr
  · exact (eB_drawLine_48_b k48 _ _ _ _ _ _ _ _ _).symm.trans hr
  · cases hr
theorem tB_drawLine_48 : ∀ n : Nat, XTo cX0_drawLine 10 RX0 0 2 46 48 [0, 1, 2, 3, 4, 5, 6, 7] (wB_drawLine_48 (qB_drawLine_48 n)) := by
  intro n
  induction n with
  | zero =>
    refine XTo.none fun vs st h => ?_
    unfold wB_drawLine_48
    split <;> rfl
  | succ n ih => exact tB_drawLine_48_b  ih
set_option maxRecDepth 100000 in
theorem eB_drawLine (a0 : Nat) (a1 : Nat) (x2 : Int32) (x3 : Int32) (h : XH) : qB_drawLine a0 a1 x2 x3 h = xrun BB_drawLine (xfind [(48, ([0, 1, 2, 3, 4, 5, 6, 7], wB_drawLine_48 (qB_drawLine_48 LF)))]) 80 0 (List.zip [0, 1, 2, 3] [.ref a0, .ref a1, .int x2, .int x3]) [] h := rfl
theorem tB_drawLine : XTo cX0_drawLine 10 RX0 0 2 46 0 [0, 1, 2, 3] (wB_drawLine (qB_drawLine)) := by
  refine XTo.run (B := BB_drawLine) (cut := xfind [(48, ([0, 1, 2, 3, 4, 5, 6, 7], wB_drawLine_48 (qB_drawLine_48 LF)))]) kB_drawLine (xcuts_ok (List.forall_mem_cons.mpr ⟨tB_drawLine_48 LF, fun _ h => absurd h List.not_mem_nil⟩)) 80 (fun vs st h r hr => ?_)
  unfold wB_drawLine at hr
  split at hr
  · exact (eB_drawLine _ _ _ _ _).symm.trans hr
  · cases hr
def FB_drawLine : List Value → XH → XR := fun vs h => match vs with
  | [.ref a0, .ref a1, .int x2, .int x3] => qB_drawLine a0 a1 x2 x3 h
  | _ => none
theorem SB_drawLine : XS yX0_drawLine cX0_drawLine 10 none (xrm 2 46) FB_drawLine := by
  refine XS.of (own := RX0) (by decide) rfl (rk := 0) rfl (tB_drawLine) (fun vs h r hr => ?_)
  unfold FB_drawLine at hr
  split at hr
  · exact ⟨rfl, Nat.le_of_ble_eq_true rfl, hr⟩
  · cases hr
-- LineDiagram$Board.drawLines(LLineDiagram$Plan;)V
def rB_drawLines : List (Nat × XRow) := [(0, (.aload_n 0, 1, 0, .null, [])),
  (1, (.aload_n 1, 2, 1, .null, [])),
  (2, (.getfield 46, 5, 46, .null, [])),
  (5, (.aload_n 1, 6, 1, .null, [])),
  (6, (.getfield 49, 9, 49, .null, [])),
  (9, (.invokevirtual 50, 12, 50, .null, [])),
  (12, (.iconst 0, 13, 0, .int (0 : Int32), [])),
  (13, (.istore_n 2, 14, 2, .null, [])),
  (14, (.iload_n 2, 15, 2, .null, [])),
  (15, (.aload_n 1, 16, 1, .null, [])),
  (16, (.getfield 54, 19, 54, .null, [])),
  (19, (.if_icmp .ge 29, 22, 48, .null, [])),
  (22, (.aload_n 0, 23, 0, .null, [])),
  (23, (.aload_n 1, 24, 1, .null, [])),
  (24, (.getfield 57, 27, 57, .null, [])),
  (27, (.iload_n 2, 28, 2, .null, [])),
  (28, (.aaload, 29, 0, .null, [])),
  (29, (.iload_n 2, 30, 2, .null, [])),
  (30, (.aload_n 1, 31, 1, .null, [])),
  (31, (.getfield 57, 34, 57, .null, [])),
  (34, (.iload_n 2, 35, 2, .null, [])),
  (35, (.aaload, 36, 0, .null, [])),
  (36, (.invokevirtual 60, 39, 60, .null, [])),
  (39, (.invokevirtual 65, 42, 65, .null, [])),
  (42, (.iinc 2 1, 45, 2, .int (1 : Int32), [])),
  (45, (.goto (-31), 48, 14, .null, [])),
  (48, (.return_, 49, 0, .null, []))]
def mB_drawLines : List (Nat × XM) := [(50, (3, 0, some 0, FB_begin)), (60, (1, 1, some 3, FLn_steps)), (65, (4, 0, some 0, FB_drawLine))]
abbrev BB_drawLines : XB := (rB_drawLines, XFT_B, mB_drawLines, 0, XST_B)
set_option maxRecDepth 100000 in
theorem kB_drawLines : XOK BB_drawLines cX0_drawLines 3 RX0 3 75 := xok_of (cps := []) (K := XKT_B) (by decide +kernel) XKT_B_ok (fun _ h => absurd h List.not_mem_nil) XFT_B_ok (List.forall_mem_cons.mpr ⟨⟨_, _, _, _, _, _, _, SB_begin, rfl, rfl, Nat.le_of_ble_eq_true rfl, Nat.le_of_ble_eq_true rfl, cdB_begin, lkB_50, imB_begin, slB_begin, inB_begin, pmB_begin⟩, List.forall_mem_cons.mpr ⟨⟨_, _, _, _, _, _, _, SLn_steps, rfl, rfl, Nat.le_of_ble_eq_true rfl, Nat.le_of_ble_eq_true rfl, cdLn_steps, lkB_60, imLn_steps, slLn_steps, inLn_steps, pmLn_steps⟩, List.forall_mem_cons.mpr ⟨⟨_, _, _, _, _, _, _, SB_drawLine, rfl, rfl, Nat.le_of_ble_eq_true rfl, Nat.le_of_ble_eq_true rfl, cdB_drawLine, lkB_65, imB_drawLine, slB_drawLine, inB_drawLine, pmB_drawLine⟩, fun _ h => absurd h List.not_mem_nil⟩⟩⟩) XST_B_ok
def wB_drawLines_14 (f : Nat → Nat → Int32 → XH → XR) : List Value → List Value → XH → XR := fun vs st h => match vs, st with
  | [.ref a0, .ref a1, .int x2], [] => f a0 a1 x2 h
  | _, _ => none
def wB_drawLines (f : Nat → Nat → XH → XR) : List Value → List Value → XH → XR := fun vs st h => match vs, st with
  | [.ref a0, .ref a1], [] => f a0 a1 h
  | _, _ => none
set_option maxRecDepth 100000 in
theorem eB_drawLines_14_b (k14 : Nat → Nat → Int32 → XH → XR) (a0 : Nat) (a1 : Nat) (x2 : Int32) (h : XH) : qB_drawLines_14_b k14 a0 a1 x2 h = xrun BB_drawLines (xfind [(14, ([0, 1, 2], wB_drawLines_14 (k14)))]) 30 14 (List.zip [0, 1, 2] [.ref a0, .ref a1, .int x2]) [] h := rfl
theorem tB_drawLines_14_b {k14 : Nat → Nat → Int32 → XH → XR} (hk14 : XTo cX0_drawLines 3 RX0 0 3 75 14 [0, 1, 2] (wB_drawLines_14 k14)) : XTo cX0_drawLines 3 RX0 0 3 75 14 [0, 1, 2] (wB_drawLines_14 (qB_drawLines_14_b k14)) := by
  refine XTo.run (B := BB_drawLines) (cut := xfind [(14, ([0, 1, 2], wB_drawLines_14 (k14)))]) kB_drawLines (xcuts_ok (List.forall_mem_cons.mpr ⟨hk14, fun _ h => absurd h List.not_mem_nil⟩)) 30 (fun vs st h r hr => ?_)
  unfold wB_drawLines_14 at hr
  split at hr
  · exact (eB_drawLines_14_b k14 _ _ _ _).symm.trans hr
  · cases hr
theorem tB_drawLines_14 : ∀ n : Nat, XTo cX0_drawLines 3 RX0 0 3 75 14 [0, 1, 2] (wB_drawLines_14 (qB_drawLines_14 n)) := by
  intro n
  induction n with
  | zero =>
    refine XTo.none fun vs st h => ?_
    unfold wB_drawLines_14
    split <;> rfl
  | succ n ih => exact tB_drawLines_14_b  ih
set_option maxRecDepth 100000 in
theorem eB_drawLines (a0 : Nat) (a1 : Nat) (h : XH) : qB_drawLines a0 a1 h = xrun BB_drawLines (xfind [(14, ([0, 1, 2], wB_drawLines_14 (qB_drawLines_14 LF)))]) 30 0 (List.zip [0, 1] [.ref a0, .ref a1]) [] h := rfl
theorem tB_drawLines : XTo cX0_drawLines 3 RX0 0 3 75 0 [0, 1] (wB_drawLines (qB_drawLines)) := by
  refine XTo.run (B := BB_drawLines) (cut := xfind [(14, ([0, 1, 2], wB_drawLines_14 (qB_drawLines_14 LF)))]) kB_drawLines (xcuts_ok (List.forall_mem_cons.mpr ⟨tB_drawLines_14 LF, fun _ h => absurd h List.not_mem_nil⟩)) 30 (fun vs st h r hr => ?_)
  unfold wB_drawLines at hr
  split at hr
  · exact (eB_drawLines _ _ _).symm.trans hr
  · cases hr
def FB_drawLines : List Value → XH → XR := fun vs h => match vs with
  | [.ref a0, .ref a1] => qB_drawLines a0 a1 h
  | _ => none
theorem SB_drawLines : XS yX0_drawLines cX0_drawLines 3 none (xrm 3 75) FB_drawLines := by
  refine XS.of (own := RX0) (by decide) rfl (rk := 0) rfl (tB_drawLines) (fun vs h r hr => ?_)
  unfold FB_drawLines at hr
  split at hr
  · exact ⟨rfl, Nat.le_of_ble_eq_true rfl, hr⟩
  · cases hr
-- LineDiagram$History.forget()V
def rH_forget : List (Nat × XRow) := [(0, (.aload_n 0, 1, 0, .null, [])),
  (1, (.iconst 0, 2, 0, .int (0 : Int32), [])),
  (2, (.putfield 18, 5, 18, .null, [])),
  (5, (.return_, 6, 0, .null, []))]
def mH_forget : List (Nat × XM) := []
abbrev BH_forget : XB := (rH_forget, XFT_H, mH_forget, 0, XST_H)
set_option maxRecDepth 100000 in
theorem kH_forget : XOK BH_forget cX1_forget 1 RX1 0 0 := xok_of (cps := []) (K := XKT_H) (by decide +kernel) XKT_H_ok (fun _ h => absurd h List.not_mem_nil) XFT_H_ok (fun _ h => absurd h List.not_mem_nil) XST_H_ok
def wH_forget (f : Nat → XH → XR) : List Value → List Value → XH → XR := fun vs st h => match vs, st with
  | [.ref a0], [] => f a0 h
  | _, _ => none
set_option maxRecDepth 100000 in
theorem eH_forget (a0 : Nat) (h : XH) : qH_forget a0 h = xrun BH_forget (xfind []) 7 0 (List.zip [0] [.ref a0]) [] h := rfl
theorem tH_forget : XTo cX1_forget 1 RX1 0 0 0 0 [0] (wH_forget (qH_forget)) := by
  refine XTo.run (B := BH_forget) (cut := xfind []) kH_forget (xcuts_ok (fun _ h => absurd h List.not_mem_nil)) 7 (fun vs st h r hr => ?_)
  unfold wH_forget at hr
  split at hr
  · exact (eH_forget _ _).symm.trans hr
  · cases hr
def FH_forget : List Value → XH → XR := fun vs h => match vs with
  | [.ref a0] => qH_forget a0 h
  | _ => none
theorem SH_forget : XS yX1_forget cX1_forget 1 none (xrm 0 0) FH_forget := by
  refine XS.of (own := RX1) (by decide) rfl (rk := 0) rfl (tH_forget) (fun vs h r hr => ?_)
  unfold FH_forget at hr
  split at hr
  · exact ⟨rfl, Nat.le_of_ble_eq_true rfl, hr⟩
  · cases hr
-- LineDiagram.load()I
def rD_load : List (Nat × XRow) := [(0, (.aload_n 0, 1, 0, .null, [])),
  (1, (.aload_n 0, 2, 0, .null, [])),
  (2, (.getfield 22, 5, 22, .null, [])),
  (5, (.aload_n 0, 6, 0, .null, [])),
  (6, (.getfield 10, 9, 10, .null, [])),
  (9, (.aload_n 0, 10, 0, .null, [])),
  (10, (.getfield 33, 13, 33, .null, [])),
  (13, (.invokevirtual 90, 16, 90, .null, [])),
  (16, (.putfield 72, 19, 72, .null, [])),
  (19, (.aload_n 0, 20, 0, .null, [])),
  (20, (.getfield 10, 23, 10, .null, [])),
  (23, (.iconst 0, 24, 0, .int (0 : Int32), [])),
  (24, (.putfield 83, 27, 83, .null, [])),
  (27, (.aload_n 0, 28, 0, .null, [])),
  (28, (.getfield 72, 31, 72, .null, [])),
  (31, (.ifCond .lt 5, 34, 36, .null, [])),
  (34, (.iconst (-1), 35, 0, .int (-1 : Int32), [])),
  (35, (.ireturn, 36, 0, .null, [])),
  (36, (.aload_n 0, 37, 0, .null, [])),
  (37, (.getfield 29, 40, 29, .null, [])),
  (40, (.aload_n 0, 41, 0, .null, [])),
  (41, (.getfield 33, 44, 33, .null, [])),
  (44, (.invokevirtual 94, 47, 94, .null, [])),
  (47, (.aload_n 0, 48, 0, .null, [])),
  (48, (.getfield 54, 51, 54, .null, [])),
  (51, (.aload_n 0, 52, 0, .null, [])),
  (52, (.getfield 29, 55, 29, .null, [])),
  (55, (.invokevirtual 98, 58, 98, .null, [])),
  (58, (.aload_n 0, 59, 0, .null, [])),
  (59, (.getfield 47, 62, 47, .null, [])),
  (62, (.invokevirtual 101, 65, 101, .null, [])),
  (65, (.iconst 0, 66, 0, .int (0 : Int32), [])),
  (66, (.istore_n 1, 67, 1, .null, [])),
  (67, (.iload_n 1, 68, 1, .null, [])),
  (68, (.iconst 2, 69, 0, .int (2 : Int32), [])),
  (69, (.if_icmp .ge 16, 72, 85, .null, [])),
  (72, (.aload_n 0, 73, 0, .null, [])),
  (73, (.getfield 40, 76, 40, .null, [])),
  (76, (.iload_n 1, 77, 1, .null, [])),
  (77, (.iconst 0, 78, 0, .int (0 : Int32), [])),
  (78, (.bastore, 79, 0, .null, [])),
  (79, (.iinc 1 1, 82, 1, .int (1 : Int32), [])),
  (82, (.goto (-15), 85, 67, .null, [])),
  (85, (.aload_n 0, 86, 0, .null, [])),
  (86, (.getfield 29, 89, 29, .null, [])),
  (89, (.getfield 104, 92, 104, .null, [])),
  (92, (.ireturn, 93, 0, .null, []))]
def mD_load : List (Nat × XM) := [(90, (3, 1, some 4, FPs_parse)), (94, (2, 0, some 5, FP_copyFrom)), (98, (2, 0, some 0, FB_drawLines)), (101, (1, 0, some 1, FH_forget))]
abbrev BD_load : XB := (rD_load, XFT_D, mD_load, 1, XST_D)
set_option maxRecDepth 100000 in
theorem kD_load : XOK BD_load cX8_load 2 RX8 6 135 := xok_of (cps := []) (K := XKT_D) (by decide +kernel) XKT_D_ok (fun _ h => absurd h List.not_mem_nil) XFT_D_ok (List.forall_mem_cons.mpr ⟨⟨_, _, _, _, _, _, _, SPs_parse, rfl, rfl, Nat.le_of_ble_eq_true rfl, Nat.le_of_ble_eq_true rfl, cdPs_parse, lkD_90, imPs_parse, slPs_parse, inPs_parse, pmPs_parse⟩, List.forall_mem_cons.mpr ⟨⟨_, _, _, _, _, _, _, SP_copyFrom, rfl, rfl, Nat.le_of_ble_eq_true rfl, Nat.le_of_ble_eq_true rfl, cdP_copyFrom, lkD_94, imP_copyFrom, slP_copyFrom, inP_copyFrom, pmP_copyFrom⟩, List.forall_mem_cons.mpr ⟨⟨_, _, _, _, _, _, _, SB_drawLines, rfl, rfl, Nat.le_of_ble_eq_true rfl, Nat.le_of_ble_eq_true rfl, cdB_drawLines, lkD_98, imB_drawLines, slB_drawLines, inB_drawLines, pmB_drawLines⟩, List.forall_mem_cons.mpr ⟨⟨_, _, _, _, _, _, _, SH_forget, rfl, rfl, Nat.le_of_ble_eq_true rfl, Nat.le_of_ble_eq_true rfl, cdH_forget, lkD_101, imH_forget, slH_forget, inH_forget, pmH_forget⟩, fun _ h => absurd h List.not_mem_nil⟩⟩⟩⟩) XST_D_ok
def wD_load_85 (f : Nat → XH → XR) : List Value → List Value → XH → XR := fun vs st h => match vs, st with
  | [.ref a0], [] => f a0 h
  | _, _ => none
def wD_load_67 (f : Nat → Int32 → XH → XR) : List Value → List Value → XH → XR := fun vs st h => match vs, st with
  | [.ref a0, .int x1], [] => f a0 x1 h
  | _, _ => none
def wD_load (f : Nat → XH → XR) : List Value → List Value → XH → XR := fun vs st h => match vs, st with
  | [.ref a0], [] => f a0 h
  | _, _ => none
set_option maxRecDepth 100000 in
theorem eD_load_85 (a0 : Nat) (h : XH) : qD_load_85 a0 h = xrun BD_load (xfind []) 50 85 (List.zip [0] [.ref a0]) [] h := rfl
theorem tD_load_85 : XTo cX8_load 2 RX8 1 6 135 85 [0] (wD_load_85 (qD_load_85)) := by
  refine XTo.run (B := BD_load) (cut := xfind []) kD_load (xcuts_ok (fun _ h => absurd h List.not_mem_nil)) 50 (fun vs st h r hr => ?_)
  unfold wD_load_85 at hr
  split at hr
  · exact (eD_load_85 _ _).symm.trans hr
  · cases hr
set_option maxRecDepth 100000 in
theorem eD_load_67_b (k67 : Nat → Int32 → XH → XR) (a0 : Nat) (x1 : Int32) (h : XH) : qD_load_67_b k67 a0 x1 h = xrun BD_load (xfind [(67, ([0, 1], wD_load_67 (k67))), (85, ([0], wD_load_85 (qD_load_85)))]) 50 67 (List.zip [0, 1] [.ref a0, .int x1]) [] h := rfl
theorem tD_load_67_b {k67 : Nat → Int32 → XH → XR} (hk67 : XTo cX8_load 2 RX8 1 6 135 67 [0, 1] (wD_load_67 k67)) : XTo cX8_load 2 RX8 1 6 135 67 [0, 1] (wD_load_67 (qD_load_67_b k67)) := by
  refine XTo.run (B := BD_load) (cut := xfind [(67, ([0, 1], wD_load_67 (k67))), (85, ([0], wD_load_85 (qD_load_85)))]) kD_load (xcuts_ok (List.forall_mem_cons.mpr ⟨hk67, List.forall_mem_cons.mpr ⟨tD_load_85, fun _ h => absurd h List.not_mem_nil⟩⟩)) 50 (fun vs st h r hr => ?_)
  unfold wD_load_67 at hr
  split at hr
  · exact (eD_load_67_b k67 _ _ _).symm.trans hr
  · cases hr
theorem tD_load_67 : ∀ n : Nat, XTo cX8_load 2 RX8 1 6 135 67 [0, 1] (wD_load_67 (qD_load_67 n)) := by
  intro n
  induction n with
  | zero =>
    refine XTo.none fun vs st h => ?_
    unfold wD_load_67
    split <;> rfl
  | succ n ih => exact tD_load_67_b  ih
set_option maxRecDepth 100000 in
theorem eD_load (a0 : Nat) (h : XH) : qD_load a0 h = xrun BD_load (xfind [(67, ([0, 1], wD_load_67 (qD_load_67 LF)))]) 50 0 (List.zip [0] [.ref a0]) [] h := rfl
theorem tD_load : XTo cX8_load 2 RX8 1 6 135 0 [0] (wD_load (qD_load)) := by
  refine XTo.run (B := BD_load) (cut := xfind [(67, ([0, 1], wD_load_67 (qD_load_67 LF)))]) kD_load (xcuts_ok (List.forall_mem_cons.mpr ⟨tD_load_67 LF, fun _ h => absurd h List.not_mem_nil⟩)) 50 (fun vs st h r hr => ?_)
  unfold wD_load at hr
  split at hr
  · exact (eD_load _ _).symm.trans hr
  · cases hr
def FD_load : List Value → XH → XR := fun vs h => match vs with
  | [.ref a0] => qD_load a0 h
  | _ => none
theorem SD_load : XS yX8_load cX8_load 2 (some .int) (xrm 6 135) FD_load := by
  refine XS.of (own := RX8) (by decide) rfl (rk := 1) rfl (tD_load) (fun vs h r hr => ?_)
  unfold FD_load at hr
  split at hr
  · exact ⟨rfl, Nat.le_of_ble_eq_true rfl, hr⟩
  · cases hr
