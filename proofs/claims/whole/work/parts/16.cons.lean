def qT_init (a0 : Nat) (h : XH) (N : Nat) : XR :=
  pV (xhs h N (xnum 1 1000 (fun _ => 0))) a0 6 1 (.ref N) (fun h1 =>
  rV h1)
def rT_init : List (Nat × XRow) := [(0, (.aload_n 0, 1, 0, .null, [])), (4, (.aload_n 0, 5, 0, .null, [])), (5, (.sipush 1000, 8, 0, .int (1000 : Int32), []))]
def raT_init : List (Nat × XRow) := [(1, (.invokespecial 3, 4, 3, .int 7, [])), (8, (.newarray .byte, 10, 0, .null, [])), (10, (.putfield 9, 13, 9, .null, [])), (13, (.return_, 14, 0, .null, []))]
def mT_init : List (Nat × XM) := []
abbrev BT_init : XB := (rT_init, XFT_T, mT_init, 9, [])
def nT_init : List (Nat × (Nat × Nat)) := []
def wT_init : List (Nat × Nat) := []
def cT_init : List (Nat × XCn) := []
def fT_init : List (Nat × (Nat × Nat)) := [(9, (6, 1))]
abbrev AT_init : XAx := (raT_init, nT_init, wT_init, cT_init, fT_init)
set_option maxRecDepth 100000 in
theorem kT_init : XOK BT_init cX6_init 1 RX6 1 20 := xok_of (cps := []) (K := []) (by decide +kernel) (fun _ h => absurd h List.not_mem_nil) (fun _ h => absurd h List.not_mem_nil) XFT_T_ok (fun _ h => absurd h List.not_mem_nil) (fun _ _ _ h => by cases h)
set_option maxRecDepth 100000 in
theorem kaT_init : XAOK AT_init cX6_init RX6 1 20 := xaok_of (objs := [3]) (by decide +kernel) (List.forall_mem_cons.mpr ⟨⟨xw_t1 32 rfl rfl, xw_t1 25 rfl rfl, xw_t1 26 rfl rfl, Nat.le_of_ble_eq_true rfl, Nat.le_of_ble_eq_true rfl⟩, fun _ h => absurd h List.not_mem_nil⟩) (fun _ h => absurd h List.not_mem_nil) (fun _ h => absurd h List.not_mem_nil) (fun _ h => absurd h List.not_mem_nil) (List.forall_mem_cons.mpr ⟨⟨_, rfl, Nat.le_of_ble_eq_true rfl, xw_t1 37 rfl rfl, rfl, rfl, tyX6 1, tyX6_ok 1 (Nat.le_of_ble_eq_true rfl), fun _ => rfl, fun _ => rfl⟩, fun _ h => absurd h List.not_mem_nil⟩)
set_option maxRecDepth 100000 in
set_option maxHeartbeats 4000000 in
theorem eT_init (a : Nat) (h : XH) (N : Nat) : qT_init a h N = xrunA BT_init AT_init N 1 1000 10 0 0 0 [(0, .ref a)] [] h := rfl
theorem ST_init : XSA yX6_init cX6_init 1 1 20 1 1000 qT_init := XSA.of (own := RX6) (by decide) rfl rfl (Nat.le_of_ble_eq_true rfl) kaT_init kT_init rfl eT_init
def qPs_init (a0 : Nat) (h : XH) (N : Nat) : XR :=
  rV h
def rPs_init : List (Nat × XRow) := [(0, (.aload_n 0, 1, 0, .null, []))]
def raPs_init : List (Nat × XRow) := [(1, (.invokespecial 3, 4, 3, .int 7, [])), (4, (.return_, 5, 0, .null, []))]
def mPs_init : List (Nat × XM) := []
abbrev BPs_init : XB := (rPs_init, XFT_Ps, mPs_init, 9, [])
def nPs_init : List (Nat × (Nat × Nat)) := []
def wPs_init : List (Nat × Nat) := []
def cPs_init : List (Nat × XCn) := []
def fPs_init : List (Nat × (Nat × Nat)) := []
abbrev APs_init : XAx := (raPs_init, nPs_init, wPs_init, cPs_init, fPs_init)
set_option maxRecDepth 100000 in
theorem kPs_init : XOK BPs_init cX4_init 1 RX4 1 20 := xok_of (cps := []) (K := []) (by decide +kernel) (fun _ h => absurd h List.not_mem_nil) (fun _ h => absurd h List.not_mem_nil) XFT_Ps_ok (fun _ h => absurd h List.not_mem_nil) (fun _ _ _ h => by cases h)
set_option maxRecDepth 100000 in
theorem kaPs_init : XAOK APs_init cX4_init RX4 1 20 := xaok_of (objs := [3]) (by decide +kernel) (List.forall_mem_cons.mpr ⟨⟨xw_t1 49 rfl rfl, xw_t1 25 rfl rfl, xw_t1 26 rfl rfl, Nat.le_of_ble_eq_true rfl, Nat.le_of_ble_eq_true rfl⟩, fun _ h => absurd h List.not_mem_nil⟩) (fun _ h => absurd h List.not_mem_nil) (fun _ h => absurd h List.not_mem_nil) (fun _ h => absurd h List.not_mem_nil) (fun _ h => absurd h List.not_mem_nil)
set_option maxRecDepth 100000 in
set_option maxHeartbeats 4000000 in
theorem ePs_init (a : Nat) (h : XH) (N : Nat) : qPs_init a h N = xrunA BPs_init APs_init N 0 0 6 0 0 0 [(0, .ref a)] [] h := rfl
theorem SPs_init : XSA yX4_init cX4_init 1 1 20 0 0 qPs_init := XSA.of (own := RX4) (by decide) rfl rfl (Nat.le_of_ble_eq_true rfl) kaPs_init kPs_init rfl ePs_init
def qTv_init (a0 : Nat) (h : XH) (N : Nat) : XR :=
  pV (xhs h N (xnum 0 160 (fun _ => 0))) a0 7 0 (.ref N) (fun h1 =>
  rV h1)
def rTv_init : List (Nat × XRow) := [(0, (.aload_n 0, 1, 0, .null, [])), (4, (.aload_n 0, 5, 0, .null, [])), (5, (.sipush 160, 8, 0, .int (160 : Int32), []))]
def raTv_init : List (Nat × XRow) := [(1, (.invokespecial 3, 4, 3, .int 7, [])), (8, (.newarray .int, 10, 0, .null, [])), (10, (.putfield 9, 13, 9, .null, [])), (13, (.return_, 14, 0, .null, []))]
def mTv_init : List (Nat × XM) := []
abbrev BTv_init : XB := (rTv_init, XFT_Tv, mTv_init, 9, [])
def nTv_init : List (Nat × (Nat × Nat)) := []
def wTv_init : List (Nat × Nat) := []
def cTv_init : List (Nat × XCn) := []
def fTv_init : List (Nat × (Nat × Nat)) := [(9, (7, 0))]
abbrev ATv_init : XAx := (raTv_init, nTv_init, wTv_init, cTv_init, fTv_init)
set_option maxRecDepth 100000 in
theorem kTv_init : XOK BTv_init cX7_init 1 RX7 1 20 := xok_of (cps := []) (K := []) (by decide +kernel) (fun _ h => absurd h List.not_mem_nil) (fun _ h => absurd h List.not_mem_nil) XFT_Tv_ok (fun _ h => absurd h List.not_mem_nil) (fun _ _ _ h => by cases h)
set_option maxRecDepth 100000 in
theorem kaTv_init : XAOK ATv_init cX7_init RX7 1 20 := xaok_of (objs := [3]) (by decide +kernel) (List.forall_mem_cons.mpr ⟨⟨xw_t1 239 rfl rfl, xw_t1 25 rfl rfl, xw_t1 26 rfl rfl, Nat.le_of_ble_eq_true rfl, Nat.le_of_ble_eq_true rfl⟩, fun _ h => absurd h List.not_mem_nil⟩) (fun _ h => absurd h List.not_mem_nil) (fun _ h => absurd h List.not_mem_nil) (fun _ h => absurd h List.not_mem_nil) (List.forall_mem_cons.mpr ⟨⟨_, rfl, Nat.le_of_ble_eq_true rfl, xw_t2 0 rfl rfl, rfl, rfl, tyX7 0, tyX7_ok 0 (Nat.le_of_ble_eq_true rfl), fun _ => rfl, fun _ => rfl⟩, fun _ h => absurd h List.not_mem_nil⟩)
set_option maxRecDepth 100000 in
set_option maxHeartbeats 4000000 in
theorem eTv_init (a : Nat) (h : XH) (N : Nat) : qTv_init a h N = xrunA BTv_init ATv_init N 1 160 10 0 0 0 [(0, .ref a)] [] h := rfl
theorem STv_init : XSA yX7_init cX7_init 1 1 20 1 160 qTv_init := XSA.of (own := RX7) (by decide) rfl rfl (Nat.le_of_ble_eq_true rfl) kaTv_init kTv_init rfl eTv_init
def qLn_init (a0 : Nat) (h : XH) (N : Nat) : XR :=
  pV (xhs h N (xnum 0 10 (fun _ => 0))) a0 3 4 (.ref N) (fun h1 =>
  pV (xhs h1 (N + 1) (xnum 0 10 (fun _ => 0))) a0 3 5 (.ref (N + 1)) (fun h2 =>
  rV h2))
def rLn_init : List (Nat × XRow) := [(0, (.aload_n 0, 1, 0, .null, [])), (4, (.aload_n 0, 5, 0, .null, [])), (5, (.bipush 10, 7, 0, .int (10 : Int32), [])), (12, (.aload_n 0, 13, 0, .null, [])), (13, (.bipush 10, 15, 0, .int (10 : Int32), []))]
def raLn_init : List (Nat × XRow) := [(1, (.invokespecial 3, 4, 3, .int 7, [])), (7, (.newarray .int, 9, 0, .null, [])), (9, (.putfield 9, 12, 9, .null, [])), (15, (.newarray .int, 17, 0, .null, [])), (17, (.putfield 15, 20, 15, .null, [])), (20, (.return_, 21, 0, .null, []))]
def mLn_init : List (Nat × XM) := []
abbrev BLn_init : XB := (rLn_init, XFT_Ln, mLn_init, 9, [])
def nLn_init : List (Nat × (Nat × Nat)) := []
def wLn_init : List (Nat × Nat) := []
def cLn_init : List (Nat × XCn) := []
def fLn_init : List (Nat × (Nat × Nat)) := [(9, (3, 4)), (15, (3, 5))]
abbrev ALn_init : XAx := (raLn_init, nLn_init, wLn_init, cLn_init, fLn_init)
set_option maxRecDepth 100000 in
theorem kLn_init : XOK BLn_init cX3_init 1 RX3 1 20 := xok_of (cps := []) (K := []) (by decide +kernel) (fun _ h => absurd h List.not_mem_nil) (fun _ h => absurd h List.not_mem_nil) XFT_Ln_ok (fun _ h => absurd h List.not_mem_nil) (fun _ _ _ h => by cases h)
set_option maxRecDepth 100000 in
theorem kaLn_init : XAOK ALn_init cX3_init RX3 1 20 := xaok_of (objs := [3]) (by decide +kernel) (List.forall_mem_cons.mpr ⟨⟨xw_t1 97 rfl rfl, xw_t1 25 rfl rfl, xw_t1 26 rfl rfl, Nat.le_of_ble_eq_true rfl, Nat.le_of_ble_eq_true rfl⟩, fun _ h => absurd h List.not_mem_nil⟩) (fun _ h => absurd h List.not_mem_nil) (fun _ h => absurd h List.not_mem_nil) (fun _ h => absurd h List.not_mem_nil) (List.forall_mem_cons.mpr ⟨⟨_, rfl, Nat.le_of_ble_eq_true rfl, xw_t1 116 rfl rfl, rfl, rfl, tyX3 4, tyX3_ok 4 (Nat.le_of_ble_eq_true rfl), fun _ => rfl, fun _ => rfl⟩, List.forall_mem_cons.mpr ⟨⟨_, rfl, Nat.le_of_ble_eq_true rfl, xw_t1 120 rfl rfl, rfl, rfl, tyX3 5, tyX3_ok 5 (Nat.le_of_ble_eq_true rfl), fun _ => rfl, fun _ => rfl⟩, fun _ h => absurd h List.not_mem_nil⟩⟩)
set_option maxRecDepth 100000 in
set_option maxHeartbeats 4000000 in
theorem eLn_init (a : Nat) (h : XH) (N : Nat) : qLn_init a h N = xrunA BLn_init ALn_init N 2 20 14 0 0 0 [(0, .ref a)] [] h := rfl
theorem SLn_init : XSA yX3_init cX3_init 1 1 20 2 20 qLn_init := XSA.of (own := RX3) (by decide) rfl rfl (Nat.le_of_ble_eq_true rfl) kaLn_init kLn_init rfl eLn_init
def qLb_init (a0 : Nat) (h : XH) (N : Nat) : XR :=
  pV (xhs h N (xnum 0 160 (fun _ => 0))) a0 2 1 (.ref N) (fun h1 =>
  pV (xhs h1 (N + 1) (xnum 0 160 (fun _ => 0))) a0 2 2 (.ref (N + 1)) (fun h2 =>
  rV h2))
def rLb_init : List (Nat × XRow) := [(0, (.aload_n 0, 1, 0, .null, [])), (4, (.aload_n 0, 5, 0, .null, [])), (5, (.sipush 160, 8, 0, .int (160 : Int32), [])), (13, (.aload_n 0, 14, 0, .null, [])), (14, (.sipush 160, 17, 0, .int (160 : Int32), []))]
def raLb_init : List (Nat × XRow) := [(1, (.invokespecial 3, 4, 3, .int 7, [])), (8, (.newarray .int, 10, 0, .null, [])), (10, (.putfield 9, 13, 9, .null, [])), (17, (.newarray .int, 19, 0, .null, [])), (19, (.putfield 15, 22, 15, .null, [])), (22, (.return_, 23, 0, .null, []))]
def mLb_init : List (Nat × XM) := []
abbrev BLb_init : XB := (rLb_init, XFT_Lb, mLb_init, 9, [])
def nLb_init : List (Nat × (Nat × Nat)) := []
def wLb_init : List (Nat × Nat) := []
def cLb_init : List (Nat × XCn) := []
def fLb_init : List (Nat × (Nat × Nat)) := [(9, (2, 1)), (15, (2, 2))]
abbrev ALb_init : XAx := (raLb_init, nLb_init, wLb_init, cLb_init, fLb_init)
set_option maxRecDepth 100000 in
theorem kLb_init : XOK BLb_init cX2_init 1 RX2 1 20 := xok_of (cps := []) (K := []) (by decide +kernel) (fun _ h => absurd h List.not_mem_nil) (fun _ h => absurd h List.not_mem_nil) XFT_Lb_ok (fun _ h => absurd h List.not_mem_nil) (fun _ _ _ h => by cases h)
set_option maxRecDepth 100000 in
theorem kaLb_init : XAOK ALb_init cX2_init RX2 1 20 := xaok_of (objs := [3]) (by decide +kernel) (List.forall_mem_cons.mpr ⟨⟨xw_t1 79 rfl rfl, xw_t1 25 rfl rfl, xw_t1 26 rfl rfl, Nat.le_of_ble_eq_true rfl, Nat.le_of_ble_eq_true rfl⟩, fun _ h => absurd h List.not_mem_nil⟩) (fun _ h => absurd h List.not_mem_nil) (fun _ h => absurd h List.not_mem_nil) (fun _ h => absurd h List.not_mem_nil) (List.forall_mem_cons.mpr ⟨⟨_, rfl, Nat.le_of_ble_eq_true rfl, xw_t1 83 rfl rfl, rfl, rfl, tyX2 1, tyX2_ok 1 (Nat.le_of_ble_eq_true rfl), fun _ => rfl, fun _ => rfl⟩, List.forall_mem_cons.mpr ⟨⟨_, rfl, Nat.le_of_ble_eq_true rfl, xw_t1 84 rfl rfl, rfl, rfl, tyX2 2, tyX2_ok 2 (Nat.le_of_ble_eq_true rfl), fun _ => rfl, fun _ => rfl⟩, fun _ h => absurd h List.not_mem_nil⟩⟩)
set_option maxRecDepth 100000 in
set_option maxHeartbeats 4000000 in
theorem eLb_init (a : Nat) (h : XH) (N : Nat) : qLb_init a h N = xrunA BLb_init ALb_init N 2 320 14 0 0 0 [(0, .ref a)] [] h := rfl
theorem SLb_init : XSA yX2_init cX2_init 1 1 20 2 320 qLb_init := XSA.of (own := RX2) (by decide) rfl rfl (Nat.le_of_ble_eq_true rfl) kaLb_init kLb_init rfl eLb_init
def qB_init (a0 : Nat) (h : XH) (N : Nat) : XR :=
  pV (xhs h N (xnum 0 1600 (fun _ => 0))) a0 0 2 (.ref N) (fun h1 =>
  pV (xhs h1 (N + 1) (xnum 0 1600 (fun _ => 0))) a0 0 3 (.ref (N + 1)) (fun h2 =>
  pV (xhs h2 (N + 2) (xnum 0 1600 (fun _ => 0))) a0 0 4 (.ref (N + 2)) (fun h3 =>
  pV (xhs h3 (N + 3) (xnum 0 1600 (fun _ => 0))) a0 0 5 (.ref (N + 3)) (fun h4 =>
  pV (xhs h4 (N + 4) (xnum 0 1600 (fun _ => 0))) a0 0 6 (.ref (N + 4)) (fun h5 =>
  pV (xhs h5 (N + 5) (xnum 0 1600 (fun _ => 0))) a0 0 7 (.ref (N + 5)) (fun h6 =>
  pV (xhs h6 (N + 6) (xnum 0 160 (fun _ => 0))) a0 0 8 (.ref (N + 6)) (fun h7 =>
  rV h7)))))))
def rB_init : List (Nat × XRow) := [(0, (.aload_n 0, 1, 0, .null, [])), (4, (.aload_n 0, 5, 0, .null, [])), (5, (.sipush 1600, 8, 0, .int (1600 : Int32), [])), (13, (.aload_n 0, 14, 0, .null, [])), (14, (.sipush 1600, 17, 0, .int (1600 : Int32), [])), (22, (.aload_n 0, 23, 0, .null, [])), (23, (.sipush 1600, 26, 0, .int (1600 : Int32), [])), (31, (.aload_n 0, 32, 0, .null, [])), (32, (.sipush 1600, 35, 0, .int (1600 : Int32), [])), (40, (.aload_n 0, 41, 0, .null, [])), (41, (.sipush 1600, 44, 0, .int (1600 : Int32), [])), (49, (.aload_n 0, 50, 0, .null, [])), (50, (.sipush 1600, 53, 0, .int (1600 : Int32), [])), (58, (.aload_n 0, 59, 0, .null, [])), (59, (.sipush 160, 62, 0, .int (160 : Int32), []))]
def raB_init : List (Nat × XRow) := [(1, (.invokespecial 3, 4, 3, .int 7, [])), (8, (.newarray .int, 10, 0, .null, [])), (10, (.putfield 9, 13, 9, .null, [])), (17, (.newarray .int, 19, 0, .null, [])), (19, (.putfield 15, 22, 15, .null, [])), (26, (.newarray .int, 28, 0, .null, [])), (28, (.putfield 18, 31, 18, .null, [])), (35, (.newarray .int, 37, 0, .null, [])), (37, (.putfield 21, 40, 21, .null, [])), (44, (.newarray .int, 46, 0, .null, [])), (46, (.putfield 24, 49, 24, .null, [])), (53, (.newarray .int, 55, 0, .null, [])), (55, (.putfield 27, 58, 27, .null, [])), (62, (.newarray .int, 64, 0, .null, [])), (64, (.putfield 30, 67, 30, .null, [])), (67, (.return_, 68, 0, .null, []))]
def mB_init : List (Nat × XM) := []
abbrev BB_init : XB := (rB_init, XFT_B, mB_init, 9, [])
def nB_init : List (Nat × (Nat × Nat)) := []
def wB_init : List (Nat × Nat) := []
def cB_init : List (Nat × XCn) := []
def fB_init : List (Nat × (Nat × Nat)) := [(9, (0, 2)), (15, (0, 3)), (18, (0, 4)), (21, (0, 5)), (24, (0, 6)), (27, (0, 7)), (30, (0, 8))]
abbrev AB_init : XAx := (raB_init, nB_init, wB_init, cB_init, fB_init)
set_option maxRecDepth 100000 in
theorem kB_init : XOK BB_init cX0_init 1 RX0 1 20 := xok_of (cps := []) (K := []) (by decide +kernel) (fun _ h => absurd h List.not_mem_nil) (fun _ h => absurd h List.not_mem_nil) XFT_B_ok (fun _ h => absurd h List.not_mem_nil) (fun _ _ _ h => by cases h)
set_option maxRecDepth 100000 in
theorem kaB_init : XAOK AB_init cX0_init RX0 1 20 := xaok_of (objs := [3]) (by decide +kernel) (List.forall_mem_cons.mpr ⟨⟨xw_t1 199 rfl rfl, xw_t1 25 rfl rfl, xw_t1 26 rfl rfl, Nat.le_of_ble_eq_true rfl, Nat.le_of_ble_eq_true rfl⟩, fun _ h => absurd h List.not_mem_nil⟩) (fun _ h => absurd h List.not_mem_nil) (fun _ h => absurd h List.not_mem_nil) (fun _ h => absurd h List.not_mem_nil) (List.forall_mem_cons.mpr ⟨⟨_, rfl, Nat.le_of_ble_eq_true rfl, xw_t1 202 rfl rfl, rfl, rfl, tyX0 2, tyX0_ok 2 (Nat.le_of_ble_eq_true rfl), fun _ => rfl, fun _ => rfl⟩, List.forall_mem_cons.mpr ⟨⟨_, rfl, Nat.le_of_ble_eq_true rfl, xw_t1 204 rfl rfl, rfl, rfl, tyX0 3, tyX0_ok 3 (Nat.le_of_ble_eq_true rfl), fun _ => rfl, fun _ => rfl⟩, List.forall_mem_cons.mpr ⟨⟨_, rfl, Nat.le_of_ble_eq_true rfl, xw_t1 205 rfl rfl, rfl, rfl, tyX0 4, tyX0_ok 4 (Nat.le_of_ble_eq_true rfl), fun _ => rfl, fun _ => rfl⟩, List.forall_mem_cons.mpr ⟨⟨_, rfl, Nat.le_of_ble_eq_true rfl, xw_t1 208 rfl rfl, rfl, rfl, tyX0 5, tyX0_ok 5 (Nat.le_of_ble_eq_true rfl), fun _ => rfl, fun _ => rfl⟩, List.forall_mem_cons.mpr ⟨⟨_, rfl, Nat.le_of_ble_eq_true rfl, xw_t1 210 rfl rfl, rfl, rfl, tyX0 6, tyX0_ok 6 (Nat.le_of_ble_eq_true rfl), fun _ => rfl, fun _ => rfl⟩, List.forall_mem_cons.mpr ⟨⟨_, rfl, Nat.le_of_ble_eq_true rfl, xw_t1 212 rfl rfl, rfl, rfl, tyX0 7, tyX0_ok 7 (Nat.le_of_ble_eq_true rfl), fun _ => rfl, fun _ => rfl⟩, List.forall_mem_cons.mpr ⟨⟨_, rfl, Nat.le_of_ble_eq_true rfl, xw_t1 214 rfl rfl, rfl, rfl, tyX0 8, tyX0_ok 8 (Nat.le_of_ble_eq_true rfl), fun _ => rfl, fun _ => rfl⟩, fun _ h => absurd h List.not_mem_nil⟩⟩⟩⟩⟩⟩⟩)
set_option maxRecDepth 100000 in
set_option maxHeartbeats 4000000 in
theorem eB_init (a : Nat) (h : XH) (N : Nat) : qB_init a h N = xrunA BB_init AB_init N 7 9760 34 0 0 0 [(0, .ref a)] [] h := rfl
theorem SB_init : XSA yX0_init cX0_init 1 1 20 7 9760 qB_init := XSA.of (own := RX0) (by decide) rfl rfl (Nat.le_of_ble_eq_true rfl) kaB_init kB_init rfl eB_init
def qP_init (a0 : Nat) (h : XH) (N : Nat) : XR :=
  pV (xhs h N (xref 3 8 (fun _ => none))) a0 5 4 (.ref N) (fun h1 =>
  bV (qLb_init (N + 1) (xhs h1 (N + 1) (xobj 2 (xdf 2))) (N + 2)) (fun h2 =>
  pV h2 a0 5 5 (.ref (N + 1)) (fun h3 =>
  gR h3 a0 5 4 (fun a_4 =>
  bV (qLn_init (N + 4) (xhs h3 (N + 4) (xobj 3 (xdf 3))) (N + 5)) (fun h5 =>
  wrR h5 a_4 (0 : Int32) (N + 4) (fun h6 =>
  gR h6 a0 5 4 (fun a_7 =>
  bV (qLn_init (N + 7) (xhs h6 (N + 7) (xobj 3 (xdf 3))) (N + 8)) (fun h8 =>
  wrR h8 a_7 (1 : Int32) (N + 7) (fun h9 =>
  gR h9 a0 5 4 (fun a_10 =>
  bV (qLn_init (N + 10) (xhs h9 (N + 10) (xobj 3 (xdf 3))) (N + 11)) (fun h11 =>
  wrR h11 a_10 (2 : Int32) (N + 10) (fun h12 =>
  gR h12 a0 5 4 (fun a_13 =>
  bV (qLn_init (N + 13) (xhs h12 (N + 13) (xobj 3 (xdf 3))) (N + 14)) (fun h14 =>
  wrR h14 a_13 (3 : Int32) (N + 13) (fun h15 =>
  gR h15 a0 5 4 (fun a_16 =>
  bV (qLn_init (N + 16) (xhs h15 (N + 16) (xobj 3 (xdf 3))) (N + 17)) (fun h17 =>
  wrR h17 a_16 (4 : Int32) (N + 16) (fun h18 =>
  gR h18 a0 5 4 (fun a_19 =>
  bV (qLn_init (N + 19) (xhs h18 (N + 19) (xobj 3 (xdf 3))) (N + 20)) (fun h20 =>
  wrR h20 a_19 (5 : Int32) (N + 19) (fun h21 =>
  gR h21 a0 5 4 (fun a_22 =>
  bV (qLn_init (N + 22) (xhs h21 (N + 22) (xobj 3 (xdf 3))) (N + 23)) (fun h23 =>
  wrR h23 a_22 (6 : Int32) (N + 22) (fun h24 =>
  gR h24 a0 5 4 (fun a_25 =>
  bV (qLn_init (N + 25) (xhs h24 (N + 25) (xobj 3 (xdf 3))) (N + 26)) (fun h26 =>
  wrR h26 a_25 (7 : Int32) (N + 25) (fun h27 =>
  rV h27)))))))))))))))))))))))))))
def rP_init : List (Nat × XRow) := [(0, (.aload_n 0, 1, 0, .null, [])), (4, (.aload_n 0, 5, 0, .null, [])), (5, (.bipush 8, 7, 0, .int (8 : Int32), [])), (13, (.aload_n 0, 14, 0, .null, [])), (17, (.dup, 18, 0, .null, [])), (24, (.iconst 0, 25, 0, .int (0 : Int32), [])), (25, (.istore_n 1, 26, 1, .null, [])), (26, (.iload_n 1, 27, 1, .null, [])), (27, (.bipush 8, 29, 0, .int (8 : Int32), [])), (29, (.if_icmp .ge 22, 32, 51, .null, [])), (32, (.aload_n 0, 33, 0, .null, [])), (33, (.getfield 11, 36, 11, .null, [])), (36, (.iload_n 1, 37, 1, .null, [])), (40, (.dup, 41, 0, .null, [])), (44, (.aastore, 45, 0, .null, [])), (45, (.iinc 1 1, 48, 1, .int (1 : Int32), [])), (48, (.goto (-22), 51, 26, .null, []))]
def raP_init : List (Nat × XRow) := [(1, (.invokespecial 3, 4, 3, .int 7, [])), (7, (.anewarray 9, 10, 9, .null, [])), (10, (.putfield 11, 13, 11, .null, [])), (14, (.new 17, 17, 17, .null, [])), (18, (.invokespecial 19, 21, 19, .null, [])), (21, (.putfield 20, 24, 20, .null, [])), (37, (.new 9, 40, 9, .null, [])), (41, (.invokespecial 24, 44, 24, .null, [])), (51, (.return_, 52, 0, .null, []))]
def mP_init : List (Nat × XM) := []
abbrev BP_init : XB := (rP_init, XFT_P, mP_init, 9, [])
def nP_init : List (Nat × (Nat × Nat)) := [(9, (3, 6)), (17, (2, 3))]
def wP_init : List (Nat × Nat) := [(9, 3)]
def cP_init : List (Nat × XCn) := [(19, (2, 320, 2, qLb_init)), (24, (2, 20, 3, qLn_init))]
def fP_init : List (Nat × (Nat × Nat)) := [(11, (5, 4)), (20, (5, 5))]
abbrev AP_init : XAx := (raP_init, nP_init, wP_init, cP_init, fP_init)
set_option maxRecDepth 100000 in
theorem kP_init : XOK BP_init cX5_init 2 RX5 2 40 := xok_of (cps := []) (K := []) (by decide +kernel) (fun _ h => absurd h List.not_mem_nil) (fun _ h => absurd h List.not_mem_nil) XFT_P_ok (fun _ h => absurd h List.not_mem_nil) (fun _ _ _ h => by cases h)
set_option maxRecDepth 100000 in
theorem kaP_init : XAOK AP_init cX5_init RX5 2 40 := xaok_of (objs := [3]) (by decide +kernel) (List.forall_mem_cons.mpr ⟨⟨xw_t1 71 rfl rfl, xw_t1 25 rfl rfl, xw_t1 26 rfl rfl, Nat.le_of_ble_eq_true rfl, Nat.le_of_ble_eq_true rfl⟩, fun _ h => absurd h List.not_mem_nil⟩) (List.forall_mem_cons.mpr ⟨⟨_, rfl, rfl, xw_t1 72 rfl rfl, xw_t1 93 rfl rfl, xw_t1 6 rfl rfl⟩, List.forall_mem_cons.mpr ⟨⟨_, rfl, rfl, xw_t1 74 rfl rfl, xw_t1 75 rfl rfl, xw_t1 5 rfl rfl⟩, fun _ h => absurd h List.not_mem_nil⟩⟩) (List.forall_mem_cons.mpr ⟨⟨Or.inl rfl, _, rfl, xw_t1 72 rfl rfl⟩, fun _ h => absurd h List.not_mem_nil⟩) (List.forall_mem_cons.mpr ⟨⟨yX2_init, _, _, _, _, _, SLb_init, rfl, Nat.le_of_ble_eq_true rfl, Nat.le_of_ble_eq_true rfl, xw_t1 78 rfl rfl, Or.inr ⟨"LineDiagram", List.mem_of_getElem? (i := 2) rfl⟩, xw_t1 77 rfl rfl, xw_t1 5 rfl rfl, rfl, by decide +kernel⟩, List.forall_mem_cons.mpr ⟨⟨yX3_init, _, _, _, _, _, SLn_init, rfl, Nat.le_of_ble_eq_true rfl, Nat.le_of_ble_eq_true rfl, xw_t1 96 rfl rfl, Or.inr ⟨"LineDiagram", List.mem_of_getElem? (i := 3) rfl⟩, xw_t1 95 rfl rfl, xw_t1 6 rfl rfl, rfl, by decide +kernel⟩, fun _ h => absurd h List.not_mem_nil⟩⟩) (List.forall_mem_cons.mpr ⟨⟨_, rfl, Nat.le_of_ble_eq_true rfl, xw_t1 153 rfl rfl, rfl, rfl, tyX5 4, tyX5_ok 4 (Nat.le_of_ble_eq_true rfl), fun _ => rfl, fun _ => rfl⟩, List.forall_mem_cons.mpr ⟨⟨_, rfl, Nat.le_of_ble_eq_true rfl, xw_t1 158 rfl rfl, rfl, rfl, tyX5 5, tyX5_ok 5 (Nat.le_of_ble_eq_true rfl), fun _ => rfl, fun _ => rfl⟩, fun _ h => absurd h List.not_mem_nil⟩⟩)
set_option maxRecDepth 100000 in
set_option maxHeartbeats 4000000 in
theorem eP_init (a : Nat) (h : XH) (N : Nat) : qP_init a h N = xrunA BP_init AP_init N 28 539 116 0 0 0 [(0, .ref a)] [] h := rfl
theorem SP_init : XSA yX5_init cX5_init 2 2 40 28 539 qP_init := XSA.of (own := RX5) (by decide) rfl rfl (Nat.le_of_ble_eq_true rfl) kaP_init kP_init rfl eP_init
def qH_init (a0 : Nat) (h : XH) (N : Nat) : XR :=
  pV (xhs h N (xref 5 8 (fun _ => none))) a0 1 2 (.ref N) (fun h1 =>
  gR h1 a0 1 2 (fun a_2 =>
  bV (qP_init (N + 1) (xhs h1 (N + 1) (xobj 5 (xdf 5))) (N + 2)) (fun h3 =>
  wrR h3 a_2 (0 : Int32) (N + 1) (fun h4 =>
  gR h4 a0 1 2 (fun a_5 =>
  bV (qP_init (N + 30) (xhs h4 (N + 30) (xobj 5 (xdf 5))) (N + 31)) (fun h6 =>
  wrR h6 a_5 (1 : Int32) (N + 30) (fun h7 =>
  gR h7 a0 1 2 (fun a_8 =>
  bV (qP_init (N + 59) (xhs h7 (N + 59) (xobj 5 (xdf 5))) (N + 60)) (fun h9 =>
  wrR h9 a_8 (2 : Int32) (N + 59) (fun h10 =>
  gR h10 a0 1 2 (fun a_11 =>
  bV (qP_init (N + 88) (xhs h10 (N + 88) (xobj 5 (xdf 5))) (N + 89)) (fun h12 =>
  wrR h12 a_11 (3 : Int32) (N + 88) (fun h13 =>
  gR h13 a0 1 2 (fun a_14 =>
  bV (qP_init (N + 117) (xhs h13 (N + 117) (xobj 5 (xdf 5))) (N + 118)) (fun h15 =>
  wrR h15 a_14 (4 : Int32) (N + 117) (fun h16 =>
  gR h16 a0 1 2 (fun a_17 =>
  bV (qP_init (N + 146) (xhs h16 (N + 146) (xobj 5 (xdf 5))) (N + 147)) (fun h18 =>
  wrR h18 a_17 (5 : Int32) (N + 146) (fun h19 =>
  gR h19 a0 1 2 (fun a_20 =>
  bV (qP_init (N + 175) (xhs h19 (N + 175) (xobj 5 (xdf 5))) (N + 176)) (fun h21 =>
  wrR h21 a_20 (6 : Int32) (N + 175) (fun h22 =>
  gR h22 a0 1 2 (fun a_23 =>
  bV (qP_init (N + 204) (xhs h22 (N + 204) (xobj 5 (xdf 5))) (N + 205)) (fun h24 =>
  wrR h24 a_23 (7 : Int32) (N + 204) (fun h25 =>
  rV h25)))))))))))))))))))))))))
def rH_init : List (Nat × XRow) := [(0, (.aload_n 0, 1, 0, .null, [])), (4, (.aload_n 0, 5, 0, .null, [])), (5, (.bipush 8, 7, 0, .int (8 : Int32), [])), (13, (.iconst 0, 14, 0, .int (0 : Int32), [])), (14, (.istore_n 1, 15, 1, .null, [])), (15, (.iload_n 1, 16, 1, .null, [])), (16, (.bipush 8, 18, 0, .int (8 : Int32), [])), (18, (.if_icmp .ge 22, 21, 40, .null, [])), (21, (.aload_n 0, 22, 0, .null, [])), (22, (.getfield 11, 25, 11, .null, [])), (25, (.iload_n 1, 26, 1, .null, [])), (29, (.dup, 30, 0, .null, [])), (33, (.aastore, 34, 0, .null, [])), (34, (.iinc 1 1, 37, 1, .int (1 : Int32), [])), (37, (.goto (-22), 40, 15, .null, []))]
def raH_init : List (Nat × XRow) := [(1, (.invokespecial 3, 4, 3, .int 7, [])), (7, (.anewarray 9, 10, 9, .null, [])), (10, (.putfield 11, 13, 11, .null, [])), (26, (.new 9, 29, 9, .null, [])), (30, (.invokespecial 17, 33, 17, .null, [])), (40, (.return_, 41, 0, .null, []))]
def mH_init : List (Nat × XM) := []
abbrev BH_init : XB := (rH_init, XFT_H, mH_init, 9, [])
def nH_init : List (Nat × (Nat × Nat)) := [(9, (5, 6))]
def wH_init : List (Nat × Nat) := [(9, 5)]
def cH_init : List (Nat × XCn) := [(17, (28, 539, 5, qP_init))]
def fH_init : List (Nat × (Nat × Nat)) := [(11, (1, 2))]
abbrev AH_init : XAx := (raH_init, nH_init, wH_init, cH_init, fH_init)
set_option maxRecDepth 100000 in
theorem kH_init : XOK BH_init cX1_init 2 RX1 3 61 := xok_of (cps := []) (K := []) (by decide +kernel) (fun _ h => absurd h List.not_mem_nil) (fun _ h => absurd h List.not_mem_nil) XFT_H_ok (fun _ h => absurd h List.not_mem_nil) (fun _ _ _ h => by cases h)
set_option maxRecDepth 100000 in
theorem kaH_init : XAOK AH_init cX1_init RX1 3 61 := xaok_of (objs := [3]) (by decide +kernel) (List.forall_mem_cons.mpr ⟨⟨xw_t1 179 rfl rfl, xw_t1 25 rfl rfl, xw_t1 26 rfl rfl, Nat.le_of_ble_eq_true rfl, Nat.le_of_ble_eq_true rfl⟩, fun _ h => absurd h List.not_mem_nil⟩) (List.forall_mem_cons.mpr ⟨⟨_, rfl, rfl, xw_t1 180 rfl rfl, xw_t1 67 rfl rfl, xw_t1 4 rfl rfl⟩, fun _ h => absurd h List.not_mem_nil⟩) (List.forall_mem_cons.mpr ⟨⟨Or.inr rfl, _, rfl, xw_t1 180 rfl rfl⟩, fun _ h => absurd h List.not_mem_nil⟩) (List.forall_mem_cons.mpr ⟨⟨yX5_init, _, _, _, _, _, SP_init, rfl, Nat.le_of_ble_eq_true rfl, Nat.le_of_ble_eq_true rfl, xw_t1 70 rfl rfl, Or.inl (xw_t1 181 rfl rfl), xw_t1 69 rfl rfl, xw_t1 4 rfl rfl, rfl, by decide +kernel⟩, fun _ h => absurd h List.not_mem_nil⟩) (List.forall_mem_cons.mpr ⟨⟨_, rfl, Nat.le_of_ble_eq_true rfl, xw_t1 185 rfl rfl, rfl, rfl, tyX1 2, tyX1_ok 2 (Nat.le_of_ble_eq_true rfl), fun _ => rfl, fun _ => rfl⟩, fun _ h => absurd h List.not_mem_nil⟩)
set_option maxRecDepth 100000 in
set_option maxHeartbeats 4000000 in
theorem eH_init (a : Nat) (h : XH) (N : Nat) : qH_init a h N = xrunA BH_init AH_init N 233 4368 111 0 0 0 [(0, .ref a)] [] h := rfl
theorem SH_init : XSA yX1_init cX1_init 2 3 61 233 4368 qH_init := XSA.of (own := RX1) (by decide) rfl rfl (Nat.le_of_ble_eq_true rfl) kaH_init kH_init rfl eH_init
def qD_init (a0 : Nat) (h : XH) (N : Nat) : XR :=
  bV (qT_init N (xhs h N (xobj 6 (xdf 6))) (N + 1)) (fun h1 =>
  pV h1 a0 8 0 (.ref N) (fun h2 =>
  bV (qT_init (N + 2) (xhs h2 (N + 2) (xobj 6 (xdf 6))) (N + 3)) (fun h3 =>
  pV h3 a0 8 1 (.ref (N + 2)) (fun h4 =>
  bV (qPs_init (N + 4) (xhs h4 (N + 4) (xobj 4 (xdf 4))) (N + 5)) (fun h5 =>
  pV h5 a0 8 2 (.ref (N + 4)) (fun h6 =>
  bV (qP_init (N + 5) (xhs h6 (N + 5) (xobj 5 (xdf 5))) (N + 6)) (fun h7 =>
  pV h7 a0 8 3 (.ref (N + 5)) (fun h8 =>
  bV (qP_init (N + 34) (xhs h8 (N + 34) (xobj 5 (xdf 5))) (N + 35)) (fun h9 =>
  pV h9 a0 8 4 (.ref (N + 34)) (fun h10 =>
  pV (xhs h10 (N + 63) (xref 5 2 (fun _ => none))) a0 8 5 (.ref (N + 63)) (fun h11 =>
  pV (xhs h11 (N + 64) (xnum 2 2 (fun _ => 0))) a0 8 6 (.ref (N + 64)) (fun h12 =>
  bV (qH_init (N + 65) (xhs h12 (N + 65) (xobj 1 (xdf 1))) (N + 66)) (fun h13 =>
  pV h13 a0 8 7 (.ref (N + 65)) (fun h14 =>
  bV (qB_init (N + 299) (xhs h14 (N + 299) (xobj 0 (xdf 0))) (N + 300)) (fun h15 =>
  pV h15 a0 8 8 (.ref (N + 299)) (fun h16 =>
  bV (qTv_init (N + 307) (xhs h16 (N + 307) (xobj 7 (xdf 7))) (N + 308)) (fun h17 =>
  pV h17 a0 8 9 (.ref (N + 307)) (fun h18 =>
  bV (qLn_init (N + 309) (xhs h18 (N + 309) (xobj 3 (xdf 3))) (N + 310)) (fun h19 =>
  pV h19 a0 8 10 (.ref (N + 309)) (fun h20 =>
  pV h20 a0 8 11 (.int (-2 : Int32)) (fun h21 =>
  gR h21 a0 8 5 (fun a_22 =>
  bV (qP_init (N + 312) (xhs h21 (N + 312) (xobj 5 (xdf 5))) (N + 313)) (fun h23 =>
  wrR h23 a_22 (0 : Int32) (N + 312) (fun h24 =>
  gR h24 a0 8 5 (fun a_25 =>
  bV (qP_init (N + 341) (xhs h24 (N + 341) (xobj 5 (xdf 5))) (N + 342)) (fun h26 =>
  wrR h26 a_25 (1 : Int32) (N + 341) (fun h27 =>
  gR h27 a0 8 3 (fun a_28 =>
  isO h27 a_28 5 (bV (qP_begin a_28 (20 : Int32) (12 : Int32) (2 : Int32) h27) (fun h29 =>
  gR h29 a0 8 8 (fun a_30 =>
  isO h29 a_30 0 (bV (qB_begin a_30 (20 : Int32) (12 : Int32) h29) (fun h31 =>
  rV h31)))))))))))))))))))))))))))))))))
def rD_init : List (Nat × XRow) := [(0, (.aload_n 0, 1, 0, .null, [])), (4, (.aload_n 0, 5, 0, .null, [])), (8, (.dup, 9, 0, .null, [])), (15, (.aload_n 0, 16, 0, .null, [])), (19, (.dup, 20, 0, .null, [])), (26, (.aload_n 0, 27, 0, .null, [])), (30, (.dup, 31, 0, .null, [])), (37, (.aload_n 0, 38, 0, .null, [])), (41, (.dup, 42, 0, .null, [])), (48, (.aload_n 0, 49, 0, .null, [])), (52, (.dup, 53, 0, .null, [])), (59, (.aload_n 0, 60, 0, .null, [])), (60, (.iconst 2, 61, 0, .int (2 : Int32), [])), (67, (.aload_n 0, 68, 0, .null, [])), (68, (.iconst 2, 69, 0, .int (2 : Int32), [])), (74, (.aload_n 0, 75, 0, .null, [])), (78, (.dup, 79, 0, .null, [])), (85, (.aload_n 0, 86, 0, .null, [])), (89, (.dup, 90, 0, .null, [])), (96, (.aload_n 0, 97, 0, .null, [])), (100, (.dup, 101, 0, .null, [])), (107, (.aload_n 0, 108, 0, .null, [])), (111, (.dup, 112, 0, .null, [])), (118, (.aload_n 0, 119, 0, .null, [])), (119, (.bipush (-2), 121, 0, .int (-2 : Int32), [])), (121, (.putfield 72, 124, 72, .null, [])), (124, (.iconst 0, 125, 0, .int (0 : Int32), [])), (125, (.istore_n 1, 126, 1, .null, [])), (126, (.iload_n 1, 127, 1, .null, [])), (127, (.iconst 2, 128, 0, .int (2 : Int32), [])), (128, (.if_icmp .ge 22, 131, 150, .null, [])), (131, (.aload_n 0, 132, 0, .null, [])), (132, (.getfield 36, 135, 36, .null, [])), (135, (.iload_n 1, 136, 1, .null, [])), (139, (.dup, 140, 0, .null, [])), (143, (.aastore, 144, 0, .null, [])), (144, (.iinc 1 1, 147, 1, .int (1 : Int32), [])), (147, (.goto (-21), 150, 126, .null, [])), (150, (.aload_n 0, 151, 0, .null, [])), (151, (.getfield 29, 154, 29, .null, [])), (154, (.bipush 20, 156, 0, .int (20 : Int32), [])), (156, (.bipush 12, 158, 0, .int (12 : Int32), [])), (158, (.iconst 2, 159, 0, .int (2 : Int32), [])), (159, (.invokevirtual 76, 162, 76, .null, [])), (162, (.aload_n 0, 163, 0, .null, [])), (163, (.getfield 54, 166, 54, .null, [])), (166, (.bipush 20, 168, 0, .int (20 : Int32), [])), (168, (.bipush 12, 170, 0, .int (12 : Int32), [])), (170, (.invokevirtual 80, 173, 80, .null, []))]
def raD_init : List (Nat × XRow) := [(1, (.invokespecial 1, 4, 1, .int 7, [])), (5, (.new 7, 8, 7, .null, [])), (9, (.invokespecial 9, 12, 9, .null, [])), (12, (.putfield 10, 15, 10, .null, [])), (16, (.new 7, 19, 7, .null, [])), (20, (.invokespecial 9, 23, 9, .null, [])), (23, (.putfield 16, 26, 16, .null, [])), (27, (.new 19, 30, 19, .null, [])), (31, (.invokespecial 21, 34, 21, .null, [])), (34, (.putfield 22, 37, 22, .null, [])), (38, (.new 26, 41, 26, .null, [])), (42, (.invokespecial 28, 45, 28, .null, [])), (45, (.putfield 29, 48, 29, .null, [])), (49, (.new 26, 52, 26, .null, [])), (53, (.invokespecial 28, 56, 28, .null, [])), (56, (.putfield 33, 59, 33, .null, [])), (61, (.anewarray 26, 64, 26, .null, [])), (64, (.putfield 36, 67, 36, .null, [])), (69, (.newarray .boolean, 71, 0, .null, [])), (71, (.putfield 40, 74, 40, .null, [])), (75, (.new 44, 78, 44, .null, [])), (79, (.invokespecial 46, 82, 46, .null, [])), (82, (.putfield 47, 85, 47, .null, [])), (86, (.new 51, 89, 51, .null, [])), (90, (.invokespecial 53, 93, 53, .null, [])), (93, (.putfield 54, 96, 54, .null, [])), (97, (.new 58, 100, 58, .null, [])), (101, (.invokespecial 60, 104, 60, .null, [])), (104, (.putfield 61, 107, 61, .null, [])), (108, (.new 65, 111, 65, .null, [])), (112, (.invokespecial 67, 115, 67, .null, [])), (115, (.putfield 68, 118, 68, .null, [])), (136, (.new 26, 139, 26, .null, [])), (140, (.invokespecial 28, 143, 28, .null, [])), (173, (.return_, 174, 0, .null, []))]
def mD_init : List (Nat × XM) := [(76, (4, 0, some 5, FP_begin)), (80, (3, 0, some 0, FB_begin))]
abbrev BD_init : XB := (rD_init, XFT_D, mD_init, 9, [])
def nD_init : List (Nat × (Nat × Nat)) := [(7, (6, 2)), (19, (4, 5)), (26, (5, 6)), (44, (1, 3)), (51, (0, 9)), (58, (7, 1)), (65, (3, 6))]
def wD_init : List (Nat × Nat) := [(26, 5)]
def cD_init : List (Nat × XCn) := [(9, (1, 1000, 6, qT_init)), (21, (0, 0, 4, qPs_init)), (28, (28, 539, 5, qP_init)), (46, (233, 4368, 1, qH_init)), (53, (7, 9760, 0, qB_init)), (60, (1, 160, 7, qTv_init)), (67, (2, 20, 3, qLn_init))]
def fD_init : List (Nat × (Nat × Nat)) := [(10, (8, 0)), (16, (8, 1)), (22, (8, 2)), (29, (8, 3)), (33, (8, 4)), (36, (8, 5)), (40, (8, 6)), (47, (8, 7)), (54, (8, 8)), (61, (8, 9)), (68, (8, 10))]
abbrev AD_init : XAx := (raD_init, nD_init, wD_init, cD_init, fD_init)
set_option maxRecDepth 100000 in
theorem kD_init : XOK BD_init cX8_init 2 RX8 4 82 := xok_of (cps := []) (K := []) (by decide +kernel) (fun _ h => absurd h List.not_mem_nil) (fun _ h => absurd h List.not_mem_nil) XFT_D_ok (List.forall_mem_cons.mpr ⟨⟨_, _, _, _, _, _, _, SP_begin, rfl, rfl, Nat.le_of_ble_eq_true rfl, Nat.le_of_ble_eq_true rfl, cdP_begin, xw_t2 6 rfl rfl, imP_begin, slP_begin, inP_begin, pmP_begin⟩, List.forall_mem_cons.mpr ⟨⟨_, _, _, _, _, _, _, SB_begin, rfl, rfl, Nat.le_of_ble_eq_true rfl, Nat.le_of_ble_eq_true rfl, cdB_begin, xw_t2 10 rfl rfl, imB_begin, slB_begin, inB_begin, pmB_begin⟩, fun _ h => absurd h List.not_mem_nil⟩⟩) (fun _ _ _ h => by cases h)
set_option maxRecDepth 100000 in
theorem kaD_init : XAOK AD_init cX8_init RX8 4 82 := xaok_of (objs := [1]) (by decide +kernel) (List.forall_mem_cons.mpr ⟨⟨xw_t1 24 rfl rfl, xw_t1 25 rfl rfl, xw_t1 26 rfl rfl, Nat.le_of_ble_eq_true rfl, Nat.le_of_ble_eq_true rfl⟩, fun _ h => absurd h List.not_mem_nil⟩) (List.forall_mem_cons.mpr ⟨⟨_, rfl, rfl, xw_t1 27 rfl rfl, xw_t1 28 rfl rfl, xw_t1 2 rfl rfl⟩, List.forall_mem_cons.mpr ⟨⟨_, rfl, rfl, xw_t1 44 rfl rfl, xw_t1 45 rfl rfl, xw_t1 3 rfl rfl⟩, List.forall_mem_cons.mpr ⟨⟨_, rfl, rfl, xw_t1 66 rfl rfl, xw_t1 67 rfl rfl, xw_t1 4 rfl rfl⟩, List.forall_mem_cons.mpr ⟨⟨_, rfl, rfl, xw_t1 174 rfl rfl, xw_t1 175 rfl rfl, xw_t1 7 rfl rfl⟩, List.forall_mem_cons.mpr ⟨⟨_, rfl, rfl, xw_t1 194 rfl rfl, xw_t1 195 rfl rfl, xw_t1 8 rfl rfl⟩, List.forall_mem_cons.mpr ⟨⟨_, rfl, rfl, xw_t1 234 rfl rfl, xw_t1 235 rfl rfl, xw_t1 9 rfl rfl⟩, List.forall_mem_cons.mpr ⟨⟨_, rfl, rfl, xw_t2 4 rfl rfl, xw_t1 93 rfl rfl, xw_t1 6 rfl rfl⟩, fun _ h => absurd h List.not_mem_nil⟩⟩⟩⟩⟩⟩⟩) (List.forall_mem_cons.mpr ⟨⟨Or.inr rfl, _, rfl, xw_t1 66 rfl rfl⟩, fun _ h => absurd h List.not_mem_nil⟩) (List.forall_mem_cons.mpr ⟨⟨yX6_init, _, _, _, _, _, ST_init, rfl, Nat.le_of_ble_eq_true rfl, Nat.le_of_ble_eq_true rfl, xw_t1 31 rfl rfl, Or.inr ⟨"LineDiagram", List.mem_of_getElem? (i := 0) rfl⟩, xw_t1 30 rfl rfl, xw_t1 2 rfl rfl, rfl, by decide +kernel⟩, List.forall_mem_cons.mpr ⟨⟨yX4_init, _, _, _, _, _, SPs_init, rfl, Nat.le_of_ble_eq_true rfl, Nat.le_of_ble_eq_true rfl, xw_t1 48 rfl rfl, Or.inr ⟨"LineDiagram", List.mem_of_getElem? (i := 1) rfl⟩, xw_t1 47 rfl rfl, xw_t1 3 rfl rfl, rfl, by decide +kernel⟩, List.forall_mem_cons.mpr ⟨⟨yX5_init, _, _, _, _, _, SP_init, rfl, Nat.le_of_ble_eq_true rfl, Nat.le_of_ble_eq_true rfl, xw_t1 70 rfl rfl, Or.inl (xw_t1 68 rfl rfl), xw_t1 69 rfl rfl, xw_t1 4 rfl rfl, rfl, by decide +kernel⟩, List.forall_mem_cons.mpr ⟨⟨yX1_init, _, _, _, _, _, SH_init, rfl, Nat.le_of_ble_eq_true rfl, Nat.le_of_ble_eq_true rfl, xw_t1 178 rfl rfl, Or.inl (xw_t1 176 rfl rfl), xw_t1 177 rfl rfl, xw_t1 7 rfl rfl, rfl, by decide +kernel⟩, List.forall_mem_cons.mpr ⟨⟨yX0_init, _, _, _, _, _, SB_init, rfl, Nat.le_of_ble_eq_true rfl, Nat.le_of_ble_eq_true rfl, xw_t1 198 rfl rfl, Or.inr ⟨"LineDiagram", List.mem_of_getElem? (i := 4) rfl⟩, xw_t1 197 rfl rfl, xw_t1 8 rfl rfl, rfl, by decide +kernel⟩, List.forall_mem_cons.mpr ⟨⟨yX7_init, _, _, _, _, _, STv_init, rfl, Nat.le_of_ble_eq_true rfl, Nat.le_of_ble_eq_true rfl, xw_t1 238 rfl rfl, Or.inr ⟨"LineDiagram", List.mem_of_getElem? (i := 5) rfl⟩, xw_t1 237 rfl rfl, xw_t1 9 rfl rfl, rfl, by decide +kernel⟩, List.forall_mem_cons.mpr ⟨⟨yX3_init, _, _, _, _, _, SLn_init, rfl, Nat.le_of_ble_eq_true rfl, Nat.le_of_ble_eq_true rfl, xw_t1 96 rfl rfl, Or.inr ⟨"LineDiagram", List.mem_of_getElem? (i := 6) rfl⟩, xw_t1 95 rfl rfl, xw_t1 6 rfl rfl, rfl, by decide +kernel⟩, fun _ h => absurd h List.not_mem_nil⟩⟩⟩⟩⟩⟩⟩) (List.forall_mem_cons.mpr ⟨⟨_, rfl, Nat.le_of_ble_eq_true rfl, xw_t2 17 rfl rfl, rfl, rfl, tyX8 0, tyX8_ok 0 (Nat.le_of_ble_eq_true rfl), fun _ => rfl, fun _ => rfl⟩, List.forall_mem_cons.mpr ⟨⟨_, rfl, Nat.le_of_ble_eq_true rfl, xw_t2 18 rfl rfl, rfl, rfl, tyX8 1, tyX8_ok 1 (Nat.le_of_ble_eq_true rfl), fun _ => rfl, fun _ => rfl⟩, List.forall_mem_cons.mpr ⟨⟨_, rfl, Nat.le_of_ble_eq_true rfl, xw_t2 19 rfl rfl, rfl, rfl, tyX8 2, tyX8_ok 2 (Nat.le_of_ble_eq_true rfl), fun _ => rfl, fun _ => rfl⟩, List.forall_mem_cons.mpr ⟨⟨_, rfl, Nat.le_of_ble_eq_true rfl, xw_t2 20 rfl rfl, rfl, rfl, tyX8 3, tyX8_ok 3 (Nat.le_of_ble_eq_true rfl), fun _ => rfl, fun _ => rfl⟩, List.forall_mem_cons.mpr ⟨⟨_, rfl, Nat.le_of_ble_eq_true rfl, xw_t2 21 rfl rfl, rfl, rfl, tyX8 4, tyX8_ok 4 (Nat.le_of_ble_eq_true rfl), fun _ => rfl, fun _ => rfl⟩, List.forall_mem_cons.mpr ⟨⟨_, rfl, Nat.le_of_ble_eq_true rfl, xw_t2 22 rfl rfl, rfl, rfl, tyX8 5, tyX8_ok 5 (Nat.le_of_ble_eq_true rfl), fun _ => rfl, fun _ => rfl⟩, List.forall_mem_cons.mpr ⟨⟨_, rfl, Nat.le_of_ble_eq_true rfl, xw_t2 23 rfl rfl, rfl, rfl, tyX8 6, tyX8_ok 6 (Nat.le_of_ble_eq_true rfl), fun _ => rfl, fun _ => rfl⟩, List.forall_mem_cons.mpr ⟨⟨_, rfl, Nat.le_of_ble_eq_true rfl, xw_t2 24 rfl rfl, rfl, rfl, tyX8 7, tyX8_ok 7 (Nat.le_of_ble_eq_true rfl), fun _ => rfl, fun _ => rfl⟩, List.forall_mem_cons.mpr ⟨⟨_, rfl, Nat.le_of_ble_eq_true rfl, xw_t2 25 rfl rfl, rfl, rfl, tyX8 8, tyX8_ok 8 (Nat.le_of_ble_eq_true rfl), fun _ => rfl, fun _ => rfl⟩, List.forall_mem_cons.mpr ⟨⟨_, rfl, Nat.le_of_ble_eq_true rfl, xw_t2 26 rfl rfl, rfl, rfl, tyX8 9, tyX8_ok 9 (Nat.le_of_ble_eq_true rfl), fun _ => rfl, fun _ => rfl⟩, List.forall_mem_cons.mpr ⟨⟨_, rfl, Nat.le_of_ble_eq_true rfl, xw_t2 27 rfl rfl, rfl, rfl, tyX8 10, tyX8_ok 10 (Nat.le_of_ble_eq_true rfl), fun _ => rfl, fun _ => rfl⟩, fun _ h => absurd h List.not_mem_nil⟩⟩⟩⟩⟩⟩⟩⟩⟩⟩⟩)
set_option maxRecDepth 100000 in
set_option maxHeartbeats 4000000 in
theorem eD_init (a : Nat) (h : XH) (N : Nat) : qD_init a h N = xrunA BD_init AD_init N 370 18520 102 0 0 0 [(0, .ref a)] [] h := rfl
theorem SD_init : XSA yX8_init cX8_init 2 4 82 370 18520 qD_init := XSA.of (own := RX8) (by decide) rfl rfl (Nat.le_of_ble_eq_true rfl) kaD_init kD_init rfl eD_init
def qM_init (a0 : Nat) (h : XH) (N : Nat) : XR :=
  pV (xhs h N (xnum 1 1000 (fun _ => 0))) a0 9 0 (.ref N) (fun h1 =>
  pV h1 a0 9 2 (.int (-2 : Int32)) (fun h2 =>
  pV (xhs h2 (N + 1) (xnum 0 8 (fun _ => 0))) a0 9 7 (.ref (N + 1)) (fun h3 =>
  pV (xhs h3 (N + 2) (xnum 0 1784 (fun _ => 0))) a0 9 8 (.ref (N + 2)) (fun h4 =>
  pV (xhs h4 (N + 3) (xnum 0 1784 (fun _ => 0))) a0 9 9 (.ref (N + 3)) (fun h5 =>
  pV (xhs h5 (N + 4) (xnum 0 14272 (fun _ => 0))) a0 9 10 (.ref (N + 4)) (fun h6 =>
  pV (xhs h6 (N + 5) (xnum 0 3568 (fun _ => 0))) a0 9 11 (.ref (N + 5)) (fun h7 =>
  pV (xhs h7 (N + 6) (xnum 2 2 (fun _ => 0))) a0 9 12 (.ref (N + 6)) (fun h8 =>
  pV (xhs h8 (N + 7) (xnum 0 8 (fun _ => 0))) a0 9 14 (.ref (N + 7)) (fun h9 =>
  pV (xhs h9 (N + 8) (xnum 0 3200 (fun _ => 0))) a0 9 15 (.ref (N + 8)) (fun h10 =>
  pV (xhs h10 (N + 9) (xnum 0 1600 (fun _ => 0))) a0 9 16 (.ref (N + 9)) (fun h11 =>
  pV (xhs h11 (N + 10) (xnum 0 6400 (fun _ => 0))) a0 9 17 (.ref (N + 10)) (fun h12 =>
  pV (xhs h12 (N + 11) (xnum 0 1600 (fun _ => 0))) a0 9 18 (.ref (N + 11)) (fun h13 =>
  pV (xhs h13 (N + 12) (xnum 0 1600 (fun _ => 0))) a0 9 19 (.ref (N + 12)) (fun h14 =>
  pV (xhs h14 (N + 13) (xnum 0 1600 (fun _ => 0))) a0 9 20 (.ref (N + 13)) (fun h15 =>
  pV (xhs h15 (N + 14) (xnum 0 1600 (fun _ => 0))) a0 9 21 (.ref (N + 14)) (fun h16 =>
  pV (xhs h16 (N + 15) (xnum 0 8 (fun _ => 0))) a0 9 36 (.ref (N + 15)) (fun h17 =>
  pV (xhs h17 (N + 16) (xnum 0 184 (fun _ => 0))) a0 9 37 (.ref (N + 16)) (fun h18 =>
  pV (xhs h18 (N + 17) (xnum 0 1600 (fun _ => 0))) a0 9 38 (.ref (N + 17)) (fun h19 =>
  pV (xhs h19 (N + 18) (xnum 0 1600 (fun _ => 0))) a0 9 39 (.ref (N + 18)) (fun h20 =>
  pV h20 a0 9 3 (.int (20 : Int32)) (fun h21 =>
  pV h21 a0 9 4 (.int (12 : Int32)) (fun h22 =>
  pV h22 a0 9 5 (.int (2 : Int32)) (fun h23 =>
  isO h23 a0 9 (bV (qM_empties a0 h23) (fun h24 =>
  rV h24)))))))))))))))))))))))))
def rM_init : List (Nat × XRow) := [(0, (.aload_n 0, 1, 0, .null, [])), (4, (.aload_n 0, 5, 0, .null, [])), (5, (.sipush 1000, 8, 0, .int (1000 : Int32), [])), (13, (.aload_n 0, 14, 0, .null, [])), (14, (.bipush (-2), 16, 0, .int (-2 : Int32), [])), (16, (.putfield 13, 19, 13, .null, [])), (19, (.aload_n 0, 20, 0, .null, [])), (20, (.bipush 8, 22, 0, .int (8 : Int32), [])), (27, (.aload_n 0, 28, 0, .null, [])), (28, (.sipush 1784, 31, 0, .int (1784 : Int32), [])), (36, (.aload_n 0, 37, 0, .null, [])), (37, (.sipush 1784, 40, 0, .int (1784 : Int32), [])), (45, (.aload_n 0, 46, 0, .null, [])), (46, (.sipush 14272, 49, 0, .int (14272 : Int32), [])), (54, (.aload_n 0, 55, 0, .null, [])), (55, (.sipush 3568, 58, 0, .int (3568 : Int32), [])), (63, (.aload_n 0, 64, 0, .null, [])), (64, (.iconst 2, 65, 0, .int (2 : Int32), [])), (70, (.aload_n 0, 71, 0, .null, [])), (71, (.bipush 8, 73, 0, .int (8 : Int32), [])), (78, (.aload_n 0, 79, 0, .null, [])), (79, (.sipush 3200, 82, 0, .int (3200 : Int32), [])), (87, (.aload_n 0, 88, 0, .null, [])), (88, (.sipush 1600, 91, 0, .int (1600 : Int32), [])), (96, (.aload_n 0, 97, 0, .null, [])), (97, (.sipush 6400, 100, 0, .int (6400 : Int32), [])), (105, (.aload_n 0, 106, 0, .null, [])), (106, (.sipush 1600, 109, 0, .int (1600 : Int32), [])), (114, (.aload_n 0, 115, 0, .null, [])), (115, (.sipush 1600, 118, 0, .int (1600 : Int32), [])), (123, (.aload_n 0, 124, 0, .null, [])), (124, (.sipush 1600, 127, 0, .int (1600 : Int32), [])), (132, (.aload_n 0, 133, 0, .null, [])), (133, (.sipush 1600, 136, 0, .int (1600 : Int32), [])), (141, (.aload_n 0, 142, 0, .null, [])), (142, (.bipush 8, 144, 0, .int (8 : Int32), [])), (149, (.aload_n 0, 150, 0, .null, [])), (150, (.sipush 184, 153, 0, .int (184 : Int32), [])), (158, (.aload_n 0, 159, 0, .null, [])), (159, (.sipush 1600, 162, 0, .int (1600 : Int32), [])), (167, (.aload_n 0, 168, 0, .null, [])), (168, (.sipush 1600, 171, 0, .int (1600 : Int32), [])), (176, (.aload_n 0, 177, 0, .null, [])), (177, (.bipush 20, 179, 0, .int (20 : Int32), [])), (179, (.putfield 73, 182, 73, .null, [])), (182, (.aload_n 0, 183, 0, .null, [])), (183, (.bipush 12, 185, 0, .int (12 : Int32), [])), (185, (.putfield 76, 188, 76, .null, [])), (188, (.aload_n 0, 189, 0, .null, [])), (189, (.iconst 2, 190, 0, .int (2 : Int32), [])), (190, (.putfield 79, 193, 79, .null, [])), (193, (.aload_n 0, 194, 0, .null, [])), (194, (.invokevirtual 82, 197, 82, .null, []))]
def raM_init : List (Nat × XRow) := [(1, (.invokespecial 1, 4, 1, .int 7, [])), (8, (.newarray .byte, 10, 0, .null, [])), (10, (.putfield 7, 13, 7, .null, [])), (22, (.newarray .int, 24, 0, .null, [])), (24, (.putfield 17, 27, 17, .null, [])), (31, (.newarray .int, 33, 0, .null, [])), (33, (.putfield 21, 36, 21, .null, [])), (40, (.newarray .int, 42, 0, .null, [])), (42, (.putfield 24, 45, 24, .null, [])), (49, (.newarray .int, 51, 0, .null, [])), (51, (.putfield 27, 54, 27, .null, [])), (58, (.newarray .int, 60, 0, .null, [])), (60, (.putfield 30, 63, 30, .null, [])), (65, (.newarray .boolean, 67, 0, .null, [])), (67, (.putfield 33, 70, 33, .null, [])), (73, (.newarray .int, 75, 0, .null, [])), (75, (.putfield 37, 78, 37, .null, [])), (82, (.newarray .int, 84, 0, .null, [])), (84, (.putfield 40, 87, 40, .null, [])), (91, (.newarray .int, 93, 0, .null, [])), (93, (.putfield 43, 96, 43, .null, [])), (100, (.newarray .int, 102, 0, .null, [])), (102, (.putfield 46, 105, 46, .null, [])), (109, (.newarray .int, 111, 0, .null, [])), (111, (.putfield 49, 114, 49, .null, [])), (118, (.newarray .int, 120, 0, .null, [])), (120, (.putfield 52, 123, 52, .null, [])), (127, (.newarray .int, 129, 0, .null, [])), (129, (.putfield 55, 132, 55, .null, [])), (136, (.newarray .int, 138, 0, .null, [])), (138, (.putfield 58, 141, 58, .null, [])), (144, (.newarray .int, 146, 0, .null, [])), (146, (.putfield 61, 149, 61, .null, [])), (153, (.newarray .int, 155, 0, .null, [])), (155, (.putfield 64, 158, 64, .null, [])), (162, (.newarray .int, 164, 0, .null, [])), (164, (.putfield 67, 167, 67, .null, [])), (171, (.newarray .int, 173, 0, .null, [])), (173, (.putfield 70, 176, 70, .null, [])), (197, (.return_, 198, 0, .null, []))]
def mM_init : List (Nat × XM) := [(82, (1, 0, some 9, FM_empties))]
abbrev BM_init : XB := (rM_init, XFT_M, mM_init, 9, [])
def nM_init : List (Nat × (Nat × Nat)) := []
def wM_init : List (Nat × Nat) := []
def cM_init : List (Nat × XCn) := []
def fM_init : List (Nat × (Nat × Nat)) := [(7, (9, 0)), (17, (9, 7)), (21, (9, 8)), (24, (9, 9)), (27, (9, 10)), (30, (9, 11)), (33, (9, 12)), (37, (9, 14)), (40, (9, 15)), (43, (9, 16)), (46, (9, 17)), (49, (9, 18)), (52, (9, 19)), (55, (9, 20)), (58, (9, 21)), (61, (9, 36)), (64, (9, 37)), (67, (9, 38)), (70, (9, 39))]
abbrev AM_init : XAx := (raM_init, nM_init, wM_init, cM_init, fM_init)
set_option maxRecDepth 100000 in
theorem kM_init : XOK BM_init cX9_init 1 RX9 1 21 := xok_of (cps := []) (K := []) (by decide +kernel) (fun _ h => absurd h List.not_mem_nil) (fun _ h => absurd h List.not_mem_nil) XFT_M_ok (List.forall_mem_cons.mpr ⟨⟨_, _, _, _, _, _, _, SM_empties, rfl, rfl, Nat.le_of_ble_eq_true rfl, Nat.le_of_ble_eq_true rfl, cdM_empties, xw_t5 81 rfl rfl, imM_empties, slM_empties, inM_empties, pmM_empties⟩, fun _ h => absurd h List.not_mem_nil⟩) (fun _ _ _ h => by cases h)
set_option maxRecDepth 100000 in
theorem kaM_init : XAOK AM_init cX9_init RX9 1 21 := xaok_of (objs := [1]) (by decide +kernel) (List.forall_mem_cons.mpr ⟨⟨xw_t5 80 rfl rfl, xw_t1 25 rfl rfl, xw_t1 26 rfl rfl, Nat.le_of_ble_eq_true rfl, Nat.le_of_ble_eq_true rfl⟩, fun _ h => absurd h List.not_mem_nil⟩) (fun _ h => absurd h List.not_mem_nil) (fun _ h => absurd h List.not_mem_nil) (fun _ h => absurd h List.not_mem_nil) (List.forall_mem_cons.mpr ⟨⟨_, rfl, Nat.le_of_ble_eq_true rfl, xw_t5 85 rfl rfl, rfl, rfl, tyX9 0, tyX9_ok 0 (Nat.le_of_ble_eq_true rfl), fun _ => rfl, fun _ => rfl⟩, List.forall_mem_cons.mpr ⟨⟨_, rfl, Nat.le_of_ble_eq_true rfl, xw_t5 92 rfl rfl, rfl, rfl, tyX9 7, tyX9_ok 7 (Nat.le_of_ble_eq_true rfl), fun _ => rfl, fun _ => rfl⟩, List.forall_mem_cons.mpr ⟨⟨_, rfl, Nat.le_of_ble_eq_true rfl, xw_t5 93 rfl rfl, rfl, rfl, tyX9 8, tyX9_ok 8 (Nat.le_of_ble_eq_true rfl), fun _ => rfl, fun _ => rfl⟩, List.forall_mem_cons.mpr ⟨⟨_, rfl, Nat.le_of_ble_eq_true rfl, xw_t5 94 rfl rfl, rfl, rfl, tyX9 9, tyX9_ok 9 (Nat.le_of_ble_eq_true rfl), fun _ => rfl, fun _ => rfl⟩, List.forall_mem_cons.mpr ⟨⟨_, rfl, Nat.le_of_ble_eq_true rfl, xw_t5 95 rfl rfl, rfl, rfl, tyX9 10, tyX9_ok 10 (Nat.le_of_ble_eq_true rfl), fun _ => rfl, fun _ => rfl⟩, List.forall_mem_cons.mpr ⟨⟨_, rfl, Nat.le_of_ble_eq_true rfl, xw_t5 96 rfl rfl, rfl, rfl, tyX9 11, tyX9_ok 11 (Nat.le_of_ble_eq_true rfl), fun _ => rfl, fun _ => rfl⟩, List.forall_mem_cons.mpr ⟨⟨_, rfl, Nat.le_of_ble_eq_true rfl, xw_t5 97 rfl rfl, rfl, rfl, tyX9 12, tyX9_ok 12 (Nat.le_of_ble_eq_true rfl), fun _ => rfl, fun _ => rfl⟩, List.forall_mem_cons.mpr ⟨⟨_, rfl, Nat.le_of_ble_eq_true rfl, xw_t5 99 rfl rfl, rfl, rfl, tyX9 14, tyX9_ok 14 (Nat.le_of_ble_eq_true rfl), fun _ => rfl, fun _ => rfl⟩, List.forall_mem_cons.mpr ⟨⟨_, rfl, Nat.le_of_ble_eq_true rfl, xw_t5 100 rfl rfl, rfl, rfl, tyX9 15, tyX9_ok 15 (Nat.le_of_ble_eq_true rfl), fun _ => rfl, fun _ => rfl⟩, List.forall_mem_cons.mpr ⟨⟨_, rfl, Nat.le_of_ble_eq_true rfl, xw_t5 101 rfl rfl, rfl, rfl, tyX9 16, tyX9_ok 16 (Nat.le_of_ble_eq_true rfl), fun _ => rfl, fun _ => rfl⟩, List.forall_mem_cons.mpr ⟨⟨_, rfl, Nat.le_of_ble_eq_true rfl, xw_t5 102 rfl rfl, rfl, rfl, tyX9 17, tyX9_ok 17 (Nat.le_of_ble_eq_true rfl), fun _ => rfl, fun _ => rfl⟩, List.forall_mem_cons.mpr ⟨⟨_, rfl, Nat.le_of_ble_eq_true rfl, xw_t5 103 rfl rfl, rfl, rfl, tyX9 18, tyX9_ok 18 (Nat.le_of_ble_eq_true rfl), fun _ => rfl, fun _ => rfl⟩, List.forall_mem_cons.mpr ⟨⟨_, rfl, Nat.le_of_ble_eq_true rfl, xw_t5 104 rfl rfl, rfl, rfl, tyX9 19, tyX9_ok 19 (Nat.le_of_ble_eq_true rfl), fun _ => rfl, fun _ => rfl⟩, List.forall_mem_cons.mpr ⟨⟨_, rfl, Nat.le_of_ble_eq_true rfl, xw_t5 105 rfl rfl, rfl, rfl, tyX9 20, tyX9_ok 20 (Nat.le_of_ble_eq_true rfl), fun _ => rfl, fun _ => rfl⟩, List.forall_mem_cons.mpr ⟨⟨_, rfl, Nat.le_of_ble_eq_true rfl, xw_t5 106 rfl rfl, rfl, rfl, tyX9 21, tyX9_ok 21 (Nat.le_of_ble_eq_true rfl), fun _ => rfl, fun _ => rfl⟩, List.forall_mem_cons.mpr ⟨⟨_, rfl, Nat.le_of_ble_eq_true rfl, xw_t5 121 rfl rfl, rfl, rfl, tyX9 36, tyX9_ok 36 (Nat.le_of_ble_eq_true rfl), fun _ => rfl, fun _ => rfl⟩, List.forall_mem_cons.mpr ⟨⟨_, rfl, Nat.le_of_ble_eq_true rfl, xw_t5 122 rfl rfl, rfl, rfl, tyX9 37, tyX9_ok 37 (Nat.le_of_ble_eq_true rfl), fun _ => rfl, fun _ => rfl⟩, List.forall_mem_cons.mpr ⟨⟨_, rfl, Nat.le_of_ble_eq_true rfl, xw_t5 123 rfl rfl, rfl, rfl, tyX9 38, tyX9_ok 38 (Nat.le_of_ble_eq_true rfl), fun _ => rfl, fun _ => rfl⟩, List.forall_mem_cons.mpr ⟨⟨_, rfl, Nat.le_of_ble_eq_true rfl, xw_t5 124 rfl rfl, rfl, rfl, tyX9 39, tyX9_ok 39 (Nat.le_of_ble_eq_true rfl), fun _ => rfl, fun _ => rfl⟩, fun _ h => absurd h List.not_mem_nil⟩⟩⟩⟩⟩⟩⟩⟩⟩⟩⟩⟩⟩⟩⟩⟩⟩⟩⟩)
set_option maxRecDepth 100000 in
set_option maxHeartbeats 4000000 in
theorem eM_init (a : Nat) (h : XH) (N : Nat) : qM_init a h N = xrunA BM_init AM_init N 19 43418 96 0 0 0 [(0, .ref a)] [] h := rfl
theorem SM_init : XSA yX9_init cX9_init 1 1 21 19 43418 qM_init := XSA.of (own := RX9) (by decide) rfl rfl (Nat.le_of_ble_eq_true rfl) kaM_init kM_init rfl eM_init
