-- LineDiagram$Parser.kindOfWord(I)I
def rPs_kindOfWord : List (Nat × XRow) := [(0, (.iload_n 0, 1, 0, .null, [])),
  (1, (.lookupswitch 76 #[(54525952, 73), (82888832, 59), (412554240, 64), (647828480, 67), (659014240, 70), (693712896, 61)], 60, 77, .null, [((54525952 : Int32), 74), ((82888832 : Int32), 60), ((412554240 : Int32), 65), ((647828480 : Int32), 68), ((659014240 : Int32), 71), ((693712896 : Int32), 62)])),
  (60, (.iconst 5, 61, 0, .int (5 : Int32), [])),
  (61, (.ireturn, 62, 0, .null, [])),
  (62, (.bipush 6, 64, 0, .int (6 : Int32), [])),
  (64, (.ireturn, 65, 0, .null, [])),
  (65, (.bipush 7, 67, 0, .int (7 : Int32), [])),
  (67, (.ireturn, 68, 0, .null, [])),
  (68, (.bipush 8, 70, 0, .int (8 : Int32), [])),
  (70, (.ireturn, 71, 0, .null, [])),
  (71, (.bipush 9, 73, 0, .int (9 : Int32), [])),
  (73, (.ireturn, 74, 0, .null, [])),
  (74, (.bipush 10, 76, 0, .int (10 : Int32), [])),
  (76, (.ireturn, 77, 0, .null, [])),
  (77, (.iconst 4, 78, 0, .int (4 : Int32), [])),
  (78, (.ireturn, 79, 0, .null, []))]
def mPs_kindOfWord : List (Nat × XM) := []
abbrev BPs_kindOfWord : XB := (rPs_kindOfWord, XFT_Ps, mPs_kindOfWord, 1, XST_Ps)
set_option maxRecDepth 100000 in
theorem kPs_kindOfWord : XOK BPs_kindOfWord cX4_kindOfWord 1 RX4 0 0 := xok_of (cps := []) (K := XKT_Ps) (by decide +kernel) XKT_Ps_ok (fun _ h => absurd h List.not_mem_nil) XFT_Ps_ok (fun _ h => absurd h List.not_mem_nil) XST_Ps_ok
def wPs_kindOfWord (f : Int32 → XH → XR) : List Value → List Value → XH → XR := fun vs st h => match vs, st with
  | [.int x0], [] => f x0 h
  | _, _ => none
set_option maxRecDepth 100000 in
theorem ePs_kindOfWord (x0 : Int32) (h : XH) : qPs_kindOfWord x0 h = xrun BPs_kindOfWord (xfind []) 19 0 (List.zip [0] [.int x0]) [] h := rfl
theorem tPs_kindOfWord : XTo cX4_kindOfWord 1 RX4 1 0 0 0 [0] (wPs_kindOfWord (qPs_kindOfWord)) := by
  refine XTo.run (B := BPs_kindOfWord) (cut := xfind []) kPs_kindOfWord (xcuts_ok (fun _ h => absurd h List.not_mem_nil)) 19 (fun vs st h r hr => ?_)
  unfold wPs_kindOfWord at hr
  split at hr
  · exact (ePs_kindOfWord _ _).symm.trans hr
  · cases hr
def FPs_kindOfWord : List Value → XH → XR := fun vs h => match vs with
  | [.int x0] => qPs_kindOfWord x0 h
  | _ => none
theorem SPs_kindOfWord : XS yX4_kindOfWord cX4_kindOfWord 1 (some .int) (xrm 0 0) FPs_kindOfWord := by
  refine XS.of (own := RX4) (by decide) rfl (rk := 1) rfl (tPs_kindOfWord) (fun vs h r hr => ?_)
  unfold FPs_kindOfWord at hr
  split at hr
  · exact ⟨rfl, Nat.le_of_ble_eq_true rfl, hr⟩
  · cases hr
-- LineDiagram$Parser.scanWord(LLineDiagram$Text;)V
def rPs_scanWord : List (Nat × XRow) := [(0, (.iconst 0, 1, 0, .int (0 : Int32), [])),
  (1, (.istore_n 2, 2, 2, .null, [])),
  (2, (.aload_n 0, 3, 0, .null, [])),
  (3, (.iconst 0, 4, 0, .int (0 : Int32), [])),
  (4, (.putfield 65, 7, 65, .null, [])),
  (7, (.aload_n 0, 8, 0, .null, [])),
  (8, (.getfield 9, 11, 9, .null, [])),
  (11, (.aload_n 1, 12, 1, .null, [])),
  (12, (.getfield 105, 15, 105, .null, [])),
  (15, (.if_icmp .ge 66, 18, 81, .null, [])),
  (18, (.aload_n 1, 19, 1, .null, [])),
  (19, (.aload_n 0, 20, 0, .null, [])),
  (20, (.getfield 9, 23, 9, .null, [])),
  (23, (.invokevirtual 110, 26, 110, .null, [])),
  (26, (.invokestatic 116, 29, 116, .null, [])),
  (29, (.ifCond .eq 52, 32, 81, .null, [])),
  (32, (.iload_n 2, 33, 2, .null, [])),
  (33, (.bipush 6, 35, 0, .int (6 : Int32), [])),
  (35, (.if_icmp .ge 30, 38, 65, .null, [])),
  (38, (.aload_n 0, 39, 0, .null, [])),
  (39, (.dup, 40, 0, .null, [])),
  (40, (.getfield 65, 43, 65, .null, [])),
  (43, (.aload_n 1, 44, 1, .null, [])),
  (44, (.aload_n 0, 45, 0, .null, [])),
  (45, (.getfield 9, 48, 9, .null, [])),
  (48, (.invokevirtual 110, 51, 110, .null, [])),
  (51, (.bipush 97, 53, 0, .int (97 : Int32), [])),
  (53, (.isub, 54, 0, .null, [])),
  (54, (.iconst 1, 55, 0, .int (1 : Int32), [])),
  (55, (.iadd, 56, 0, .null, [])),
  (56, (.iload_n 2, 57, 2, .null, [])),
  (57, (.invokestatic 128, 60, 128, .null, [])),
  (60, (.ishl, 61, 0, .null, [])),
  (61, (.ior, 62, 0, .null, [])),
  (62, (.putfield 65, 65, 65, .null, [])),
  (65, (.iinc 2 1, 68, 2, .int (1 : Int32), [])),
  (68, (.aload_n 0, 69, 0, .null, [])),
  (69, (.dup, 70, 0, .null, [])),
  (70, (.getfield 9, 73, 9, .null, [])),
  (73, (.iconst 1, 74, 0, .int (1 : Int32), [])),
  (74, (.iadd, 75, 0, .null, [])),
  (75, (.putfield 9, 78, 9, .null, [])),
  (78, (.goto (-71), 81, 7, .null, [])),
  (81, (.aload_n 0, 82, 0, .null, [])),
  (82, (.iload_n 2, 83, 2, .null, [])),
  (83, (.bipush 6, 85, 0, .int (6 : Int32), [])),
  (85, (.if_icmp .le 7, 88, 92, .null, [])),
  (88, (.iconst 1, 89, 0, .int (1 : Int32), [])),
  (89, (.goto 10, 92, 99, .null, [])),
  (92, (.aload_n 0, 93, 0, .null, [])),
  (93, (.getfield 65, 96, 65, .null, [])),
  (96, (.invokestatic 131, 99, 131, .null, [])),
  (99, (.putfield 26, 102, 26, .null, [])),
  (102, (.return_, 103, 0, .null, []))]
def mPs_scanWord : List (Nat × XM) := [(110, (2, 1, some 6, FT_byteAt)), (116, (1, 1, none, FPs_isLetter)), (128, (1, 1, none, FD_shiftOf)), (131, (1, 1, none, FPs_kindOfWord))]
abbrev BPs_scanWord : XB := (rPs_scanWord, XFT_Ps, mPs_scanWord, 0, XST_Ps)
set_option maxRecDepth 100000 in
theorem kPs_scanWord : XOK BPs_scanWord cX4_scanWord 3 RX4 1 21 := xok_of (cps := []) (K := XKT_Ps) (by decide +kernel) XKT_Ps_ok (fun _ h => absurd h List.not_mem_nil) XFT_Ps_ok (List.forall_mem_cons.mpr ⟨⟨_, _, _, _, _, _, _, ST_byteAt, rfl, rfl, Nat.le_of_ble_eq_true rfl, Nat.le_of_ble_eq_true rfl, cdT_byteAt, lkPs_110, imT_byteAt, slT_byteAt, inT_byteAt, pmT_byteAt⟩, List.forall_mem_cons.mpr ⟨⟨_, _, _, _, _, _, SPs_isLetter, Nat.le_of_ble_eq_true rfl, Nat.le_of_ble_eq_true rfl, cdPs_isLetter, lkPs_116, imPs_isLetter, inPs_isLetter, pmPs_isLetter⟩, List.forall_mem_cons.mpr ⟨⟨_, _, _, _, _, _, SD_shiftOf, Nat.le_of_ble_eq_true rfl, Nat.le_of_ble_eq_true rfl, cdD_shiftOf, lkPs_128, imD_shiftOf, inD_shiftOf, pmD_shiftOf⟩, List.forall_mem_cons.mpr ⟨⟨_, _, _, _, _, _, SPs_kindOfWord, Nat.le_of_ble_eq_true rfl, Nat.le_of_ble_eq_true rfl, cdPs_kindOfWord, lkPs_131, imPs_kindOfWord, inPs_kindOfWord, pmPs_kindOfWord⟩, fun _ h => absurd h List.not_mem_nil⟩⟩⟩⟩) XST_Ps_ok
def wPs_scanWord_65 (f : Nat → Nat → Int32 → XH → XR) : List Value → List Value → XH → XR := fun vs st h => match vs, st with
  | [.ref a0, .ref a1, .int x2], [] => f a0 a1 x2 h
  | _, _ => none
def wPs_scanWord_99 (f : Int32 → Nat → XH → XR) : List Value → List Value → XH → XR := fun vs st h => match vs, st with
  | [], [.int s0, .ref s1] => f s0 s1 h
  | _, _ => none
def wPs_scanWord_81 (f : Nat → Int32 → XH → XR) : List Value → List Value → XH → XR := fun vs st h => match vs, st with
  | [.ref a0, .int x2], [] => f a0 x2 h
  | _, _ => none
def wPs_scanWord_7 (f : Nat → Nat → Int32 → XH → XR) : List Value → List Value → XH → XR := fun vs st h => match vs, st with
  | [.ref a0, .ref a1, .int x2], [] => f a0 a1 x2 h
  | _, _ => none
def wPs_scanWord (f : Nat → Nat → XH → XR) : List Value → List Value → XH → XR := fun vs st h => match vs, st with
  | [.ref a0, .ref a1], [] => f a0 a1 h
  | _, _ => none
set_option maxRecDepth 100000 in
theorem ePs_scanWord_65 (k7 : Nat → Nat → Int32 → XH → XR) (a0 : Nat) (a1 : Nat) (x2 : Int32) (h : XH) : qPs_scanWord_65 k7 a0 a1 x2 h = xrun BPs_scanWord (xfind [(7, ([0, 1, 2], wPs_scanWord_7 (k7)))]) 57 65 (List.zip [0, 1, 2] [.ref a0, .ref a1, .int x2]) [] h := rfl
theorem tPs_scanWord_65 {k7 : Nat → Nat → Int32 → XH → XR} (hk7 : XTo cX4_scanWord 3 RX4 0 1 21 7 [0, 1, 2] (wPs_scanWord_7 k7)) : XTo cX4_scanWord 3 RX4 0 1 21 65 [0, 1, 2] (wPs_scanWord_65 (qPs_scanWord_65 k7)) := by
  refine XTo.run (B := BPs_scanWord) (cut := xfind [(7, ([0, 1, 2], wPs_scanWord_7 (k7)))]) kPs_scanWord (xcuts_ok (List.forall_mem_cons.mpr ⟨hk7, fun _ h => absurd h List.not_mem_nil⟩)) 57 (fun vs st h r hr => ?_)
  unfold wPs_scanWord_65 at hr
  split at hr
  · exact (ePs_scanWord_65 k7 _ _ _ _).symm.trans hr
  · cases hr
set_option maxRecDepth 100000 in
theorem ePs_scanWord_99 (s0 : Int32) (s1 : Nat) (h : XH) : qPs_scanWord_99 s0 s1 h = xrun BPs_scanWord (xfind []) 57 99 (List.zip [] []) [.int s0, .ref s1] h := rfl
theorem tPs_scanWord_99 : XTo cX4_scanWord 3 RX4 0 1 21 99 [] (wPs_scanWord_99 (qPs_scanWord_99)) := by
  refine XTo.run (B := BPs_scanWord) (cut := xfind []) kPs_scanWord (xcuts_ok (fun _ h => absurd h List.not_mem_nil)) 57 (fun vs st h r hr => ?_)
  unfold wPs_scanWord_99 at hr
  split at hr
  · exact (ePs_scanWord_99 _ _ _).symm.trans hr
  · cases hr
set_option maxRecDepth 100000 in
theorem ePs_scanWord_81 (a0 : Nat) (x2 : Int32) (h : XH) : qPs_scanWord_81 a0 x2 h = xrun BPs_scanWord (xfind [(99, ([], wPs_scanWord_99 (qPs_scanWord_99)))]) 57 81 (List.zip [0, 2] [.ref a0, .int x2]) [] h := rfl
theorem tPs_scanWord_81 : XTo cX4_scanWord 3 RX4 0 1 21 81 [0, 2] (wPs_scanWord_81 (qPs_scanWord_81)) := by
  refine XTo.run (B := BPs_scanWord) (cut := xfind [(99, ([], wPs_scanWord_99 (qPs_scanWord_99)))]) kPs_scanWord (xcuts_ok (List.forall_mem_cons.mpr ⟨tPs_scanWord_99, fun _ h => absurd h List.not_mem_nil⟩)) 57 (fun vs st h r hr => ?_)
  unfold wPs_scanWord_81 at hr
  split at hr
  · exact (ePs_scanWord_81 _ _ _).symm.trans hr
  · cases hr
set_option maxRecDepth 100000 in
theorem ePs_scanWord_7_b (k7 : Nat → Nat → Int32 → XH → XR) (a0 : Nat) (a1 : Nat) (x2 : Int32) (h : XH) : qPs_scanWord_7_b k7 a0 a1 x2 h = xrun BPs_scanWord (xfind [(65, ([0, 1, 2], wPs_scanWord_65 (qPs_scanWord_65 k7))), (81, ([0, 2], wPs_scanWord_81 (qPs_scanWord_81)))]) 57 7 (List.zip [0, 1, 2] [.ref a0, .ref a1, .int x2]) [] h := rfl
theorem tPs_scanWord_7_b {k7 : Nat → Nat → Int32 → XH → XR} (hk7 : XTo cX4_scanWord 3 RX4 0 1 21 7 [0, 1, 2] (wPs_scanWord_7 k7)) : XTo cX4_scanWord 3 RX4 0 1 21 7 [0, 1, 2] (wPs_scanWord_7 (qPs_scanWord_7_b k7)) := by
  refine XTo.run (B := BPs_scanWord) (cut := xfind [(65, ([0, 1, 2], wPs_scanWord_65 (qPs_scanWord_65 k7))), (81, ([0, 2], wPs_scanWord_81 (qPs_scanWord_81)))]) kPs_scanWord (xcuts_ok (List.forall_mem_cons.mpr ⟨tPs_scanWord_65 hk7, List.forall_mem_cons.mpr ⟨tPs_scanWord_81, fun _ h => absurd h List.not_mem_nil⟩⟩)) 57 (fun vs st h r hr => ?_)
  unfold wPs_scanWord_7 at hr
  split at hr
  · exact (ePs_scanWord_7_b k7 _ _ _ _).symm.trans hr
  · cases hr
theorem tPs_scanWord_7 : ∀ n : Nat, XTo cX4_scanWord 3 RX4 0 1 21 7 [0, 1, 2] (wPs_scanWord_7 (qPs_scanWord_7 n)) := by
  intro n
  induction n with
  | zero =>
    refine XTo.none fun vs st h => ?_
    unfold wPs_scanWord_7
    split <;> rfl
  | succ n ih => exact tPs_scanWord_7_b  ih
set_option maxRecDepth 100000 in
theorem ePs_scanWord (a0 : Nat) (a1 : Nat) (h : XH) : qPs_scanWord a0 a1 h = xrun BPs_scanWord (xfind [(7, ([0, 1, 2], wPs_scanWord_7 (qPs_scanWord_7 LF)))]) 57 0 (List.zip [0, 1] [.ref a0, .ref a1]) [] h := rfl
theorem tPs_scanWord : XTo cX4_scanWord 3 RX4 0 1 21 0 [0, 1] (wPs_scanWord (qPs_scanWord)) := by
  refine XTo.run (B := BPs_scanWord) (cut := xfind [(7, ([0, 1, 2], wPs_scanWord_7 (qPs_scanWord_7 LF)))]) kPs_scanWord (xcuts_ok (List.forall_mem_cons.mpr ⟨tPs_scanWord_7 LF, fun _ h => absurd h List.not_mem_nil⟩)) 57 (fun vs st h r hr => ?_)
  unfold wPs_scanWord at hr
  split at hr
  · exact (ePs_scanWord _ _ _).symm.trans hr
  · cases hr
def FPs_scanWord : List Value → XH → XR := fun vs h => match vs with
  | [.ref a0, .ref a1] => qPs_scanWord a0 a1 h
  | _ => none
theorem SPs_scanWord : XS yX4_scanWord cX4_scanWord 3 none (xrm 1 21) FPs_scanWord := by
  refine XS.of (own := RX4) (by decide) rfl (rk := 0) rfl (tPs_scanWord) (fun vs h r hr => ?_)
  unfold FPs_scanWord at hr
  split at hr
  · exact ⟨rfl, Nat.le_of_ble_eq_true rfl, hr⟩
  · cases hr
-- LineDiagram$Parser.isDigit(I)Z
def rPs_isDigit : List (Nat × XRow) := [(0, (.iload_n 0, 1, 0, .null, [])),
  (1, (.bipush 48, 3, 0, .int (48 : Int32), [])),
  (3, (.if_icmp .lt 13, 6, 16, .null, [])),
  (6, (.iload_n 0, 7, 0, .null, [])),
  (7, (.bipush 57, 9, 0, .int (57 : Int32), [])),
  (9, (.if_icmp .gt 7, 12, 16, .null, [])),
  (12, (.iconst 1, 13, 0, .int (1 : Int32), [])),
  (13, (.goto 4, 16, 17, .null, [])),
  (16, (.iconst 0, 17, 0, .int (0 : Int32), [])),
  (17, (.ireturn, 18, 0, .null, []))]
def mPs_isDigit : List (Nat × XM) := []
abbrev BPs_isDigit : XB := (rPs_isDigit, XFT_Ps, mPs_isDigit, 6, XST_Ps)
set_option maxRecDepth 100000 in
theorem kPs_isDigit : XOK BPs_isDigit cX4_isDigit 1 RX4 0 0 := xok_of (cps := []) (K := XKT_Ps) (by decide +kernel) XKT_Ps_ok (fun _ h => absurd h List.not_mem_nil) XFT_Ps_ok (fun _ h => absurd h List.not_mem_nil) XST_Ps_ok
def wPs_isDigit (f : Int32 → XH → XR) : List Value → List Value → XH → XR := fun vs st h => match vs, st with
  | [.int x0], [] => f x0 h
  | _, _ => none
set_option maxRecDepth 100000 in
theorem ePs_isDigit (x0 : Int32) (h : XH) : qPs_isDigit x0 h = xrun BPs_isDigit (xfind []) 13 0 (List.zip [0] [.int x0]) [] h := rfl
theorem tPs_isDigit : XTo cX4_isDigit 1 RX4 6 0 0 0 [0] (wPs_isDigit (qPs_isDigit)) := by
  refine XTo.run (B := BPs_isDigit) (cut := xfind []) kPs_isDigit (xcuts_ok (fun _ h => absurd h List.not_mem_nil)) 13 (fun vs st h r hr => ?_)
  unfold wPs_isDigit at hr
  split at hr
  · exact (ePs_isDigit _ _).symm.trans hr
  · cases hr
def FPs_isDigit : List Value → XH → XR := fun vs h => match vs with
  | [.int x0] => qPs_isDigit x0 h
  | _ => none
theorem SPs_isDigit : XS yX4_isDigit cX4_isDigit 1 (some .boolean) (xrm 0 0) FPs_isDigit := by
  refine XS.of (own := RX4) (by decide) rfl (rk := 6) rfl (tPs_isDigit) (fun vs h r hr => ?_)
  unfold FPs_isDigit at hr
  split at hr
  · exact ⟨rfl, Nat.le_of_ble_eq_true rfl, hr⟩
  · cases hr
-- LineDiagram$Parser.scanNumber(LLineDiagram$Text;)V
def rPs_scanNumber : List (Nat × XRow) := [(0, (.iconst 0, 1, 0, .int (0 : Int32), [])),
  (1, (.istore_n 2, 2, 2, .null, [])),
  (2, (.aload_n 0, 3, 0, .null, [])),
  (3, (.iconst 0, 4, 0, .int (0 : Int32), [])),
  (4, (.putfield 65, 7, 65, .null, [])),
  (7, (.aload_n 0, 8, 0, .null, [])),
  (8, (.getfield 9, 11, 9, .null, [])),
  (11, (.aload_n 1, 12, 1, .null, [])),
  (12, (.getfield 105, 15, 105, .null, [])),
  (15, (.if_icmp .ge 61, 18, 76, .null, [])),
  (18, (.aload_n 1, 19, 1, .null, [])),
  (19, (.aload_n 0, 20, 0, .null, [])),
  (20, (.getfield 9, 23, 9, .null, [])),
  (23, (.invokevirtual 110, 26, 110, .null, [])),
  (26, (.invokestatic 122, 29, 122, .null, [])),
  (29, (.ifCond .eq 47, 32, 76, .null, [])),
  (32, (.iload_n 2, 33, 2, .null, [])),
  (33, (.iconst 2, 34, 0, .int (2 : Int32), [])),
  (34, (.if_icmp .ge 26, 37, 60, .null, [])),
  (37, (.aload_n 0, 38, 0, .null, [])),
  (38, (.bipush 10, 40, 0, .int (10 : Int32), [])),
  (40, (.aload_n 0, 41, 0, .null, [])),
  (41, (.getfield 65, 44, 65, .null, [])),
  (44, (.imul, 45, 0, .null, [])),
  (45, (.aload_n 1, 46, 1, .null, [])),
  (46, (.aload_n 0, 47, 0, .null, [])),
  (47, (.getfield 9, 50, 9, .null, [])),
  (50, (.invokevirtual 110, 53, 110, .null, [])),
  (53, (.iadd, 54, 0, .null, [])),
  (54, (.bipush 48, 56, 0, .int (48 : Int32), [])),
  (56, (.isub, 57, 0, .null, [])),
  (57, (.putfield 65, 60, 65, .null, [])),
  (60, (.iinc 2 1, 63, 2, .int (1 : Int32), [])),
  (63, (.aload_n 0, 64, 0, .null, [])),
  (64, (.dup, 65, 0, .null, [])),
  (65, (.getfield 9, 68, 9, .null, [])),
  (68, (.iconst 1, 69, 0, .int (1 : Int32), [])),
  (69, (.iadd, 70, 0, .null, [])),
  (70, (.putfield 9, 73, 9, .null, [])),
  (73, (.goto (-66), 76, 7, .null, [])),
  (76, (.aload_n 0, 77, 0, .null, [])),
  (77, (.iload_n 2, 78, 2, .null, [])),
  (78, (.iconst 2, 79, 0, .int (2 : Int32), [])),
  (79, (.if_icmp .le 7, 82, 86, .null, [])),
  (82, (.iconst 1, 83, 0, .int (1 : Int32), [])),
  (83, (.goto 4, 86, 87, .null, [])),
  (86, (.iconst 2, 87, 0, .int (2 : Int32), [])),
  (87, (.putfield 26, 90, 26, .null, [])),
  (90, (.return_, 91, 0, .null, []))]
def mPs_scanNumber : List (Nat × XM) := [(110, (2, 1, some 6, FT_byteAt)), (122, (1, 1, none, FPs_isDigit))]
abbrev BPs_scanNumber : XB := (rPs_scanNumber, XFT_Ps, mPs_scanNumber, 0, XST_Ps)
set_option maxRecDepth 100000 in
theorem kPs_scanNumber : XOK BPs_scanNumber cX4_scanNumber 3 RX4 1 21 := xok_of (cps := []) (K := XKT_Ps) (by decide +kernel) XKT_Ps_ok (fun _ h => absurd h List.not_mem_nil) XFT_Ps_ok (List.forall_mem_cons.mpr ⟨⟨_, _, _, _, _, _, _, ST_byteAt, rfl, rfl, Nat.le_of_ble_eq_true rfl, Nat.le_of_ble_eq_true rfl, cdT_byteAt, lkPs_110, imT_byteAt, slT_byteAt, inT_byteAt, pmT_byteAt⟩, List.forall_mem_cons.mpr ⟨⟨_, _, _, _, _, _, SPs_isDigit, Nat.le_of_ble_eq_true rfl, Nat.le_of_ble_eq_true rfl, cdPs_isDigit, lkPs_122, imPs_isDigit, inPs_isDigit, pmPs_isDigit⟩, fun _ h => absurd h List.not_mem_nil⟩⟩) XST_Ps_ok
def wPs_scanNumber_60 (f : Nat → Nat → Int32 → XH → XR) : List Value → List Value → XH → XR := fun vs st h => match vs, st with
  | [.ref a0, .ref a1, .int x2], [] => f a0 a1 x2 h
  | _, _ => none
def wPs_scanNumber_87 (f : Int32 → Nat → XH → XR) : List Value → List Value → XH → XR := fun vs st h => match vs, st with
  | [], [.int s0, .ref s1] => f s0 s1 h
  | _, _ => none
def wPs_scanNumber_76 (f : Nat → Int32 → XH → XR) : List Value → List Value → XH → XR := fun vs st h => match vs, st with
  | [.ref a0, .int x2], [] => f a0 x2 h
  | _, _ => none
def wPs_scanNumber_7 (f : Nat → Nat → Int32 → XH → XR) : List Value → List Value → XH → XR := fun vs st h => match vs, st with
  | [.ref a0, .ref a1, .int x2], [] => f a0 a1 x2 h
  | _, _ => none
def wPs_scanNumber (f : Nat → Nat → XH → XR) : List Value → List Value → XH → XR := fun vs st h => match vs, st with
  | [.ref a0, .ref a1], [] => f a0 a1 h
  | _, _ => none
set_option maxRecDepth 100000 in
theorem ePs_scanNumber_60 (k7 : Nat → Nat → Int32 → XH → XR) (a0 : Nat) (a1 : Nat) (x2 : Int32) (h : XH) : qPs_scanNumber_60 k7 a0 a1 x2 h = xrun BPs_scanNumber (xfind [(7, ([0, 1, 2], wPs_scanNumber_7 (k7)))]) 52 60 (List.zip [0, 1, 2] [.ref a0, .ref a1, .int x2]) [] h := rfl
theorem tPs_scanNumber_60 {k7 : Nat → Nat → Int32 → XH → XR} (hk7 : XTo cX4_scanNumber 3 RX4 0 1 21 7 [0, 1, 2] (wPs_scanNumber_7 k7)) : XTo cX4_scanNumber 3 RX4 0 1 21 60 [0, 1, 2] (wPs_scanNumber_60 (qPs_scanNumber_60 k7)) := by
  refine XTo.run (B := BPs_scanNumber) (cut := xfind [(7, ([0, 1, 2], wPs_scanNumber_7 (k7)))]) kPs_scanNumber (xcuts_ok (List.forall_mem_cons.mpr ⟨hk7, fun _ h => absurd h List.not_mem_nil⟩)) 52 (fun vs st h r hr => ?_)
  unfold wPs_scanNumber_60 at hr
  split at hr
  · exact (ePs_scanNumber_60 k7 _ _ _ _).symm.trans hr
  · cases hr
set_option maxRecDepth 100000 in
theorem ePs_scanNumber_87 (s0 : Int32) (s1 : Nat) (h : XH) : qPs_scanNumber_87 s0 s1 h = xrun BPs_scanNumber (xfind []) 52 87 (List.zip [] []) [.int s0, .ref s1] h := rfl
theorem tPs_scanNumber_87 : XTo cX4_scanNumber 3 RX4 0 1 21 87 [] (wPs_scanNumber_87 (qPs_scanNumber_87)) := by
  refine XTo.run (B := BPs_scanNumber) (cut := xfind []) kPs_scanNumber (xcuts_ok (fun _ h => absurd h List.not_mem_nil)) 52 (fun vs st h r hr => ?_)
  unfold wPs_scanNumber_87 at hr
  split at hr
  · exact (ePs_scanNumber_87 _ _ _).symm.trans hr
  · cases hr
set_option maxRecDepth 100000 in
theorem ePs_scanNumber_76 (a0 : Nat) (x2 : Int32) (h : XH) : qPs_scanNumber_76 a0 x2 h = xrun BPs_scanNumber (xfind [(87, ([], wPs_scanNumber_87 (qPs_scanNumber_87)))]) 52 76 (List.zip [0, 2] [.ref a0, .int x2]) [] h := rfl
theorem tPs_scanNumber_76 : XTo cX4_scanNumber 3 RX4 0 1 21 76 [0, 2] (wPs_scanNumber_76 (qPs_scanNumber_76)) := by
  refine XTo.run (B := BPs_scanNumber) (cut := xfind [(87, ([], wPs_scanNumber_87 (qPs_scanNumber_87)))]) kPs_scanNumber (xcuts_ok (List.forall_mem_cons.mpr ⟨tPs_scanNumber_87, fun _ h => absurd h List.not_mem_nil⟩)) 52 (fun vs st h r hr => ?_)
  unfold wPs_scanNumber_76 at hr
  split at hr
  · exact (ePs_scanNumber_76 _ _ _).symm.trans hr
  · cases hr
set_option maxRecDepth 100000 in
theorem ePs_scanNumber_7_b (k7 : Nat → Nat → Int32 → XH → XR) (a0 : Nat) (a1 : Nat) (x2 : Int32) (h : XH) : qPs_scanNumber_7_b k7 a0 a1 x2 h = xrun BPs_scanNumber (xfind [(60, ([0, 1, 2], wPs_scanNumber_60 (qPs_scanNumber_60 k7))), (76, ([0, 2], wPs_scanNumber_76 (qPs_scanNumber_76)))]) 52 7 (List.zip [0, 1, 2] [.ref a0, .ref a1, .int x2]) [] h := rfl
theorem tPs_scanNumber_7_b {k7 : Nat → Nat → Int32 → XH → XR} (hk7 : XTo cX4_scanNumber 3 RX4 0 1 21 7 [0, 1, 2] (wPs_scanNumber_7 k7)) : XTo cX4_scanNumber 3 RX4 0 1 21 7 [0, 1, 2] (wPs_scanNumber_7 (qPs_scanNumber_7_b k7)) := by
  refine XTo.run (B := BPs_scanNumber) (cut := xfind [(60, ([0, 1, 2], wPs_scanNumber_60 (qPs_scanNumber_60 k7))), (76, ([0, 2], wPs_scanNumber_76 (qPs_scanNumber_76)))]) kPs_scanNumber (xcuts_ok (List.forall_mem_cons.mpr ⟨tPs_scanNumber_60 hk7, List.forall_mem_cons.mpr ⟨tPs_scanNumber_76, fun _ h => absurd h List.not_mem_nil⟩⟩)) 52 (fun vs st h r hr => ?_)
  unfold wPs_scanNumber_7 at hr
  split at hr
  · exact (ePs_scanNumber_7_b k7 _ _ _ _).symm.trans hr
  · cases hr
theorem tPs_scanNumber_7 : ∀ n : Nat, XTo cX4_scanNumber 3 RX4 0 1 21 7 [0, 1, 2] (wPs_scanNumber_7 (qPs_scanNumber_7 n)) := by
  intro n
  induction n with
  | zero =>
    refine XTo.none fun vs st h => ?_
    unfold wPs_scanNumber_7
    split <;> rfl
  | succ n ih => exact tPs_scanNumber_7_b  ih
set_option maxRecDepth 100000 in
theorem ePs_scanNumber (a0 : Nat) (a1 : Nat) (h : XH) : qPs_scanNumber a0 a1 h = xrun BPs_scanNumber (xfind [(7, ([0, 1, 2], wPs_scanNumber_7 (qPs_scanNumber_7 LF)))]) 52 0 (List.zip [0, 1] [.ref a0, .ref a1]) [] h := rfl
theorem tPs_scanNumber : XTo cX4_scanNumber 3 RX4 0 1 21 0 [0, 1] (wPs_scanNumber (qPs_scanNumber)) := by
  refine XTo.run (B := BPs_scanNumber) (cut := xfind [(7, ([0, 1, 2], wPs_scanNumber_7 (qPs_scanNumber_7 LF)))]) kPs_scanNumber (xcuts_ok (List.forall_mem_cons.mpr ⟨tPs_scanNumber_7 LF, fun _ h => absurd h List.not_mem_nil⟩)) 52 (fun vs st h r hr => ?_)
  unfold wPs_scanNumber at hr
  split at hr
  · exact (ePs_scanNumber _ _ _).symm.trans hr
  · cases hr
def FPs_scanNumber : List Value → XH → XR := fun vs h => match vs with
  | [.ref a0, .ref a1] => qPs_scanNumber a0 a1 h
  | _ => none
theorem SPs_scanNumber : XS yX4_scanNumber cX4_scanNumber 3 none (xrm 1 21) FPs_scanNumber := by
  refine XS.of (own := RX4) (by decide) rfl (rk := 0) rfl (tPs_scanNumber) (fun vs h r hr => ?_)
  unfold FPs_scanNumber at hr
  split at hr
  · exact ⟨rfl, Nat.le_of_ble_eq_true rfl, hr⟩
  · cases hr
-- LineDiagram$Parser.scan(LLineDiagram$Text;)V
def rPs_scan : List (Nat × XRow) := [(0, (.aload_n 0, 1, 0, .null, [])),
  (1, (.getfield 9, 4, 9, .null, [])),
  (4, (.aload_n 1, 5, 1, .null, [])),
  (5, (.getfield 105, 8, 105, .null, [])),
  (8, (.if_icmp .ge 30, 11, 38, .null, [])),
  (11, (.aload_n 1, 12, 1, .null, [])),
  (12, (.aload_n 0, 13, 0, .null, [])),
  (13, (.getfield 9, 16, 9, .null, [])),
  (16, (.invokevirtual 110, 19, 110, .null, [])),
  (19, (.invokestatic 113, 22, 113, .null, [])),
  (22, (.ifCond .eq 16, 25, 38, .null, [])),
  (25, (.aload_n 0, 26, 0, .null, [])),
  (26, (.dup, 27, 0, .null, [])),
  (27, (.getfield 9, 30, 9, .null, [])),
  (30, (.iconst 1, 31, 0, .int (1 : Int32), [])),
  (31, (.iadd, 32, 0, .null, [])),
  (32, (.putfield 9, 35, 9, .null, [])),
  (35, (.goto (-35), 38, 0, .null, [])),
  (38, (.aload_n 0, 39, 0, .null, [])),
  (39, (.aload_n 0, 40, 0, .null, [])),
  (40, (.getfield 9, 43, 9, .null, [])),
  (43, (.putfield 23, 46, 23, .null, [])),
  (46, (.aload_n 1, 47, 1, .null, [])),
  (47, (.aload_n 0, 48, 0, .null, [])),
  (48, (.getfield 9, 51, 9, .null, [])),
  (51, (.invokevirtual 110, 54, 110, .null, [])),
  (54, (.istore_n 2, 55, 2, .null, [])),
  (55, (.iload_n 2, 56, 2, .null, [])),
  (56, (.ifCond .ge 11, 59, 67, .null, [])),
  (59, (.aload_n 0, 60, 0, .null, [])),
  (60, (.iconst 0, 61, 0, .int (0 : Int32), [])),
  (61, (.putfield 26, 64, 26, .null, [])),
  (64, (.goto 58, 67, 122, .null, [])),
  (67, (.iload_n 2, 68, 2, .null, [])),
  (68, (.invokestatic 116, 71, 116, .null, [])),
  (71, (.ifCond .eq 11, 74, 82, .null, [])),
  (74, (.aload_n 0, 75, 0, .null, [])),
  (75, (.aload_n 1, 76, 1, .null, [])),
  (76, (.invokevirtual 119, 79, 119, .null, [])),
  (79, (.goto 43, 82, 122, .null, [])),
  (82, (.iload_n 2, 83, 2, .null, [])),
  (83, (.invokestatic 122, 86, 122, .null, [])),
  (86, (.ifCond .eq 11, 89, 97, .null, [])),
  (89, (.aload_n 0, 90, 0, .null, [])),
  (90, (.aload_n 1, 91, 1, .null, [])),
  (91, (.invokevirtual 125, 94, 125, .null, [])),
  (94, (.goto 28, 97, 122, .null, [])),
  (97, (.aload_n 0, 98, 0, .null, [])),
  (98, (.iload_n 2, 99, 2, .null, [])),
  (99, (.bipush 59, 101, 0, .int (59 : Int32), [])),
  (101, (.if_icmp .ne 7, 104, 108, .null, [])),
  (104, (.iconst 3, 105, 0, .int (3 : Int32), [])),
  (105, (.goto 4, 108, 109, .null, [])),
  (108, (.iconst 1, 109, 0, .int (1 : Int32), [])),
  (109, (.putfield 26, 112, 26, .null, [])),
  (112, (.aload_n 0, 113, 0, .null, [])),
  (113, (.dup, 114, 0, .null, [])),
  (114, (.getfield 9, 117, 9, .null, [])),
  (117, (.iconst 1, 118, 0, .int (1 : Int32), [])),
  (118, (.iadd, 119, 0, .null, [])),
  (119, (.putfield 9, 122, 9, .null, [])),
  (122, (.return_, 123, 0, .null, []))]
def mPs_scan : List (Nat × XM) := [(110, (2, 1, some 6, FT_byteAt)), (113, (1, 1, none, FPs_isBlank)), (116, (1, 1, none, FPs_isLetter)), (119, (2, 0, some 4, FPs_scanWord)), (122, (1, 1, none, FPs_isDigit)), (125, (2, 0, some 4, FPs_scanNumber))]
abbrev BPs_scan : XB := (rPs_scan, XFT_Ps, mPs_scan, 0, XST_Ps)
set_option maxRecDepth 100000 in
theorem kPs_scan : XOK BPs_scan cX4_scan 3 RX4 2 43 := xok_of (cps := []) (K := XKT_Ps) (by decide +kernel) XKT_Ps_ok (fun _ h => absurd h List.not_mem_nil) XFT_Ps_ok (List.forall_mem_cons.mpr ⟨⟨_, _, _, _, _, _, _, ST_byteAt, rfl, rfl, Nat.le_of_ble_eq_true rfl, Nat.le_of_ble_eq_true rfl, cdT_byteAt, lkPs_110, imT_byteAt, slT_byteAt, inT_byteAt, pmT_byteAt⟩, List.forall_mem_cons.mpr ⟨⟨_, _, _, _, _, _, SPs_isBlank, Nat.le_of_ble_eq_true rfl, Nat.le_of_ble_eq_true rfl, cdPs_isBlank, lkPs_113, imPs_isBlank, inPs_isBlank, pmPs_isBlank⟩, List.forall_mem_cons.mpr ⟨⟨_, _, _, _, _, _, SPs_isLetter, Nat.le_of_ble_eq_true rfl, Nat.le_of_ble_eq_true rfl, cdPs_isLetter, lkPs_116, imPs_isLetter, inPs_isLetter, pmPs_isLetter⟩, List.forall_mem_cons.mpr ⟨⟨_, _, _, _, _, _, _, SPs_scanWord, rfl, rfl, Nat.le_of_ble_eq_true rfl, Nat.le_of_ble_eq_true rfl, cdPs_scanWord, lkPs_119, imPs_scanWord, slPs_scanWord, inPs_scanWord, pmPs_scanWord⟩, List.forall_mem_cons.mpr ⟨⟨_, _, _, _, _, _, SPs_isDigit, Nat.le_of_ble_eq_true rfl, Nat.le_of_ble_eq_true rfl, cdPs_isDigit, lkPs_122, imPs_isDigit, inPs_isDigit, pmPs_isDigit⟩, List.forall_mem_cons.mpr ⟨⟨_, _, _, _, _, _, _, SPs_scanNumber, rfl, rfl, Nat.le_of_ble_eq_true rfl, Nat.le_of_ble_eq_true rfl, cdPs_scanNumber, lkPs_125, imPs_scanNumber, slPs_scanNumber, inPs_scanNumber, pmPs_scanNumber⟩, fun _ h => absurd h List.not_mem_nil⟩⟩⟩⟩⟩⟩) XST_Ps_ok
def wPs_scan_109 (f : Nat → Int32 → Nat → XH → XR) : List Value → List Value → XH → XR := fun vs st h => match vs, st with
  | [.ref a0], [.int s0, .ref s1] => f a0 s0 s1 h
  | _, _ => none
def wPs_scan_38 (f : Nat → Nat → XH → XR) : List Value → List Value → XH → XR := fun vs st h => match vs, st with
  | [.ref a0, .ref a1], [] => f a0 a1 h
  | _, _ => none
def wPs_scan_0 (f : Nat → Nat → XH → XR) : List Value → List Value → XH → XR := fun vs st h => match vs, st with
  | [.ref a0, .ref a1], [] => f a0 a1 h
  | _, _ => none
set_option maxRecDepth 100000 in
theorem ePs_scan_109 (a0 : Nat) (s0 : Int32) (s1 : Nat) (h : XH) : qPs_scan_109 a0 s0 s1 h = xrun BPs_scan (xfind []) 65 109 (List.zip [0] [.ref a0]) [.int s0, .ref s1] h := rfl
theorem tPs_scan_109 : XTo cX4_scan 3 RX4 0 2 43 109 [0] (wPs_scan_109 (qPs_scan_109)) := by
  refine XTo.run (B := BPs_scan) (cut := xfind []) kPs_scan (xcuts_ok (fun _ h => absurd h List.not_mem_nil)) 65 (fun vs st h r hr => ?_)
  unfold wPs_scan_109 at hr
  split at hr
  · exact (ePs_scan_109 _ _ _ _).symm.trans hr
  · cases hr
set_option maxRecDepth 100000 in
theorem ePs_scan_38 (a0 : Nat) (a1 : Nat) (h : XH) : qPs_scan_38 a0 a1 h = xrun BPs_scan (xfind [(109, ([0], wPs_scan_109 (qPs_scan_109)))]) 65 38 (List.zip [0, 1] [.ref a0, .ref a1]) [] h := rfl
theorem tPs_scan_38 : XTo cX4_scan 3 RX4 0 2 43 38 [0, 1] (wPs_scan_38 (qPs_scan_38)) := by
  refine XTo.run (B := BPs_scan) (cut := xfind [(109, ([0], wPs_scan_109 (qPs_scan_109)))]) kPs_scan (xcuts_ok (List.forall_mem_cons.mpr ⟨tPs_scan_109, fun _ h => absurd h List.not_mem_nil⟩)) 65 (fun vs st h r hr => ?_)
  unfold wPs_scan_38 at hr
  split at hr
  · exact (ePs_scan_38 _ _ _).symm.trans hr
  · cases hr
set_option maxRecDepth 100000 in
theorem ePs_scan_0_b (k0 : Nat → Nat → XH → XR) (a0 : Nat) (a1 : Nat) (h : XH) : qPs_scan_0_b k0 a0 a1 h = xrun BPs_scan (xfind [(0, ([0, 1], wPs_scan_0 (k0))), (38, ([0, 1], wPs_scan_38 (qPs_scan_38)))]) 65 0 (List.zip [0, 1] [.ref a0, .ref a1]) [] h := rfl
theorem tPs_scan_0_b {k0 : Nat → Nat → XH → XR} (hk0 : XTo cX4_scan 3 RX4 0 2 43 0 [0, 1] (wPs_scan_0 k0)) : XTo cX4_scan 3 RX4 0 2 43 0 [0, 1] (wPs_scan_0 (qPs_scan_0_b k0)) := by
  refine XTo.run (B := BPs_scan) (cut := xfind [(0, ([0, 1], wPs_scan_0 (k0))), (38, ([0, 1], wPs_scan_38 (qPs_scan_38)))]) kPs_scan (xcuts_ok (List.forall_mem_cons.mpr ⟨hk0, List.forall_mem_cons.mpr ⟨tPs_scan_38, fun _ h => absurd h List.not_mem_nil⟩⟩)) 65 (fun vs st h r hr => ?_)
  unfold wPs_scan_0 at hr
  split at hr
  · exact (ePs_scan_0_b k0 _ _ _).symm.trans hr
  · cases hr
theorem tPs_scan_0 : ∀ n : Nat, XTo cX4_scan 3 RX4 0 2 43 0 [0, 1] (wPs_scan_0 (qPs_scan_0 n)) := by
  intro n
  induction n with
  | zero =>
    refine XTo.none fun vs st h => ?_
    unfold wPs_scan_0
    split <;> rfl
  | succ n ih => exact tPs_scan_0_b  ih
def FPs_scan : List Value → XH → XR := fun vs h => match vs with
  | [.ref a0, .ref a1] => qPs_scan a0 a1 h
  | _ => none
theorem SPs_scan : XS yX4_scan cX4_scan 3 none (xrm 2 43) FPs_scan := by
  refine XS.of (own := RX4) (by decide) rfl (rk := 0) rfl (tPs_scan_0 LF) (fun vs h r hr => ?_)
  unfold FPs_scan at hr
  split at hr
  · exact ⟨rfl, Nat.le_of_ble_eq_true rfl, hr⟩
  · cases hr
-- LineDiagram$Parser.pass(LLineDiagram$Text;I)Z
def rPs_pass : List (Nat × XRow) := [(0, (.aload_n 0, 1, 0, .null, [])),
  (1, (.getfield 26, 4, 26, .null, [])),
  (4, (.iload_n 2, 5, 2, .null, [])),
  (5, (.if_icmp .eq 5, 8, 10, .null, [])),
  (8, (.iconst 0, 9, 0, .int (0 : Int32), [])),
  (9, (.ireturn, 10, 0, .null, [])),
  (10, (.aload_n 0, 11, 0, .null, [])),
  (11, (.aload_n 1, 12, 1, .null, [])),
  (12, (.invokevirtual 15, 15, 15, .null, [])),
  (15, (.iconst 1, 16, 0, .int (1 : Int32), [])),
  (16, (.ireturn, 17, 0, .null, []))]
def mPs_pass : List (Nat × XM) := [(15, (2, 0, some 4, FPs_scan))]
abbrev BPs_pass : XB := (rPs_pass, XFT_Ps, mPs_pass, 6, XST_Ps)
set_option maxRecDepth 100000 in
theorem kPs_pass : XOK BPs_pass cX4_pass 3 RX4 3 65 := xok_of (cps := []) (K := XKT_Ps) (by decide +kernel) XKT_Ps_ok (fun _ h => absurd h List.not_mem_nil) XFT_Ps_ok (List.forall_mem_cons.mpr ⟨⟨_, _, _, _, _, _, _, SPs_scan, rfl, rfl, Nat.le_of_ble_eq_true rfl, Nat.le_of_ble_eq_true rfl, cdPs_scan, lkPs_15, imPs_scan, slPs_scan, inPs_scan, pmPs_scan⟩, fun _ h => absurd h List.not_mem_nil⟩) XST_Ps_ok
def wPs_pass (f : Nat → Nat → Int32 → XH → XR) : List Value → List Value → XH → XR := fun vs st h => match vs, st with
  | [.ref a0, .ref a1, .int x2], [] => f a0 a1 x2 h
  | _, _ => none
set_option maxRecDepth 100000 in
theorem ePs_pass (a0 : Nat) (a1 : Nat) (x2 : Int32) (h : XH) : qPs_pass a0 a1 x2 h = xrun BPs_pass (xfind []) 14 0 (List.zip [0, 1, 2] [.ref a0, .ref a1, .int x2]) [] h := rfl
theorem tPs_pass : XTo cX4_pass 3 RX4 6 3 65 0 [0, 1, 2] (wPs_pass (qPs_pass)) := by
  refine XTo.run (B := BPs_pass) (cut := xfind []) kPs_pass (xcuts_ok (fun _ h => absurd h List.not_mem_nil)) 14 (fun vs st h r hr => ?_)
  unfold wPs_pass at hr
  split at hr
  · exact (ePs_pass _ _ _ _).symm.trans hr
  · cases hr
def FPs_pass : List Value → XH → XR := fun vs h => match vs with
  | [.ref a0, .ref a1, .int x2] => qPs_pass a0 a1 x2 h
  | _ => none
theorem SPs_pass : XS yX4_pass cX4_pass 3 (some .boolean) (xrm 3 65) FPs_pass := by
  refine XS.of (own := RX4) (by decide) rfl (rk := 6) rfl (tPs_pass) (fun vs h r hr => ?_)
  unfold FPs_pass at hr
  split at hr
  · exact ⟨rfl, Nat.le_of_ble_eq_true rfl, hr⟩
  · cases hr
-- LineDiagram$Parser.isNumber(II)Z
def rPs_isNumber : List (Nat × XRow) := [(0, (.aload_n 0, 1, 0, .null, [])),
  (1, (.getfield 26, 4, 26, .null, [])),
  (4, (.iconst 2, 5, 0, .int (2 : Int32), [])),
  (5, (.if_icmp .ne 23, 8, 28, .null, [])),
  (8, (.aload_n 0, 9, 0, .null, [])),
  (9, (.getfield 65, 12, 65, .null, [])),
  (12, (.iload_n 1, 13, 1, .null, [])),
  (13, (.if_icmp .lt 15, 16, 28, .null, [])),
  (16, (.aload_n 0, 17, 0, .null, [])),
  (17, (.getfield 65, 20, 65, .null, [])),
  (20, (.iload_n 2, 21, 2, .null, [])),
  (21, (.if_icmp .gt 7, 24, 28, .null, [])),
  (24, (.iconst 1, 25, 0, .int (1 : Int32), [])),
  (25, (.goto 4, 28, 29, .null, [])),
  (28, (.iconst 0, 29, 0, .int (0 : Int32), [])),
  (29, (.ireturn, 30, 0, .null, []))]
def mPs_isNumber : List (Nat × XM) := []
abbrev BPs_isNumber : XB := (rPs_isNumber, XFT_Ps, mPs_isNumber, 6, XST_Ps)
set_option maxRecDepth 100000 in
theorem kPs_isNumber : XOK BPs_isNumber cX4_isNumber 3 RX4 0 0 := xok_of (cps := []) (K := XKT_Ps) (by decide +kernel) XKT_Ps_ok (fun _ h => absurd h List.not_mem_nil) XFT_Ps_ok (fun _ h => absurd h List.not_mem_nil) XST_Ps_ok
def wPs_isNumber (f : Nat → Int32 → Int32 → XH → XR) : List Value → List Value → XH → XR := fun vs st h => match vs, st with
  | [.ref a0, .int x1, .int x2], [] => f a0 x1 x2 h
  | _, _ => none
set_option maxRecDepth 100000 in
theorem ePs_isNumber (a0 : Nat) (x1 : Int32) (x2 : Int32) (h : XH) : qPs_isNumber a0 x1 x2 h = xrun BPs_isNumber (xfind []) 19 0 (List.zip [0, 1, 2] [.ref a0, .int x1, .int x2]) [] h := rfl
theorem tPs_isNumber : XTo cX4_isNumber 3 RX4 6 0 0 0 [0, 1, 2] (wPs_isNumber (qPs_isNumber)) := by
  refine XTo.run (B := BPs_isNumber) (cut := xfind []) kPs_isNumber (xcuts_ok (fun _ h => absurd h List.not_mem_nil)) 19 (fun vs st h r hr => ?_)
  unfold wPs_isNumber at hr
  split at hr
  · exact (ePs_isNumber _ _ _ _).symm.trans hr
  · cases hr
def FPs_isNumber : List Value → XH → XR := fun vs h => match vs with
  | [.ref a0, .int x1, .int x2] => qPs_isNumber a0 x1 x2 h
  | _ => none
theorem SPs_isNumber : XS yX4_isNumber cX4_isNumber 3 (some .boolean) (xrm 0 0) FPs_isNumber := by
  refine XS.of (own := RX4) (by decide) rfl (rk := 6) rfl (tPs_isNumber) (fun vs h r hr => ?_)
  unfold FPs_isNumber at hr
  split at hr
  · exact ⟨rfl, Nat.le_of_ble_eq_true rfl, hr⟩
  · cases hr
-- LineDiagram$Parser.readNumber(LLineDiagram$Text;II)Z
def rPs_readNumber : List (Nat × XRow) := [(0, (.aload_n 0, 1, 0, .null, [])),
  (1, (.iload_n 2, 2, 2, .null, [])),
  (2, (.iload_n 3, 3, 3, .null, [])),
  (3, (.invokevirtual 87, 6, 87, .null, [])),
  (6, (.ifCond .ne 5, 9, 11, .null, [])),
  (9, (.iconst 0, 10, 0, .int (0 : Int32), [])),
  (10, (.ireturn, 11, 0, .null, [])),
  (11, (.aload_n 0, 12, 0, .null, [])),
  (12, (.aload_n 0, 13, 0, .null, [])),
  (13, (.getfield 65, 16, 65, .null, [])),
  (16, (.putfield 53, 19, 53, .null, [])),
  (19, (.aload_n 0, 20, 0, .null, [])),
  (20, (.aload_n 1, 21, 1, .null, [])),
  (21, (.invokevirtual 15, 24, 15, .null, [])),
  (24, (.iconst 1, 25, 0, .int (1 : Int32), [])),
  (25, (.ireturn, 26, 0, .null, []))]
def mPs_readNumber : List (Nat × XM) := [(15, (2, 0, some 4, FPs_scan)), (87, (3, 1, some 4, FPs_isNumber))]
abbrev BPs_readNumber : XB := (rPs_readNumber, XFT_Ps, mPs_readNumber, 6, XST_Ps)
set_option maxRecDepth 100000 in
theorem kPs_readNumber : XOK BPs_readNumber cX4_readNumber 4 RX4 3 65 := xok_of (cps := []) (K := XKT_Ps) (by decide +kernel) XKT_Ps_ok (fun _ h => absurd h List.not_mem_nil) XFT_Ps_ok (List.forall_mem_cons.mpr ⟨⟨_, _, _, _, _, _, _, SPs_scan, rfl, rfl, Nat.le_of_ble_eq_true rfl, Nat.le_of_ble_eq_true rfl, cdPs_scan, lkPs_15, imPs_scan, slPs_scan, inPs_scan, pmPs_scan⟩, List.forall_mem_cons.mpr ⟨⟨_, _, _, _, _, _, _, SPs_isNumber, rfl, rfl, Nat.le_of_ble_eq_true rfl, Nat.le_of_ble_eq_true rfl, cdPs_isNumber, lkPs_87, imPs_isNumber, slPs_isNumber, inPs_isNumber, pmPs_isNumber⟩, fun _ h => absurd h List.not_mem_nil⟩⟩) XST_Ps_ok
def wPs_readNumber (f : Nat → Nat → Int32 → Int32 → XH → XR) : List Value → List Value → XH → XR := fun vs st h => match vs, st with
  | [.ref a0, .ref a1, .int x2, .int x3], [] => f a0 a1 x2 x3 h
  | _, _ => none
set_option maxRecDepth 100000 in
theorem ePs_readNumber (a0 : Nat) (a1 : Nat) (x2 : Int32) (x3 : Int32) (h : XH) : qPs_readNumber a0 a1 x2 x3 h = xrun BPs_readNumber (xfind []) 19 0 (List.zip [0, 1, 2, 3] [.ref a0, .ref a1, .int x2, .int x3]) [] h := rfl
theorem tPs_readNumber : XTo cX4_readNumber 4 RX4 6 3 65 0 [0, 1, 2, 3] (wPs_readNumber (qPs_readNumber)) := by
  refine XTo.run (B := BPs_readNumber) (cut := xfind []) kPs_readNumber (xcuts_ok (fun _ h => absurd h List.not_mem_nil)) 19 (fun vs st h r hr => ?_)
  unfold wPs_readNumber at hr
  split at hr
  · exact (ePs_readNumber _ _ _ _ _).symm.trans hr
  · cases hr
def FPs_readNumber : List Value → XH → XR := fun vs h => match vs with
  | [.ref a0, .ref a1, .int x2, .int x3] => qPs_readNumber a0 a1 x2 x3 h
  | _ => none
theorem SPs_readNumber : XS yX4_readNumber cX4_readNumber 4 (some .boolean) (xrm 3 65) FPs_readNumber := by
  refine XS.of (own := RX4) (by decide) rfl (rk := 6) rfl (tPs_readNumber) (fun vs h r hr => ?_)
  unfold FPs_readNumber at hr
  split at hr
  · exact ⟨rfl, Nat.le_of_ble_eq_true rfl, hr⟩
  · cases hr
-- LineDiagram$Plan.begin(III)V
def rP_begin : List (Nat × XRow) := [(0, (.aload_n 0, 1, 0, .null, [])),
  (1, (.iload_n 1, 2, 1, .null, [])),
  (2, (.putfield 25, 5, 25, .null, [])),
  (5, (.aload_n 0, 6, 0, .null, [])),
  (6, (.iload_n 2, 7, 2, .null, [])),
  (7, (.putfield 29, 10, 29, .null, [])),
  (10, (.aload_n 0, 11, 0, .null, [])),
  (11, (.iload_n 3, 12, 3, .null, [])),
  (12, (.putfield 32, 15, 32, .null, [])),
  (15, (.aload_n 0, 16, 0, .null, [])),
  (16, (.iconst 0, 17, 0, .int (0 : Int32), [])),
  (17, (.putfield 35, 20, 35, .null, [])),
  (20, (.aload_n 0, 21, 0, .null, [])),
  (21, (.getfield 20, 24, 20, .null, [])),
  (24, (.iconst 0, 25, 0, .int (0 : Int32), [])),
  (25, (.putfield 38, 28, 38, .null, [])),
  (28, (.return_, 29, 0, .null, []))]
def mP_begin : List (Nat × XM) := []
abbrev BP_begin : XB := (rP_begin, XFT_P, mP_begin, 0, XST_P)
set_option maxRecDepth 100000 in
theorem kP_begin : XOK BP_begin cX5_begin 4 RX5 0 0 := xok_of (cps := []) (K := XKT_P) (by decide +kernel) XKT_P_ok (fun _ h => absurd h List.not_mem_nil) XFT_P_ok (fun _ h => absurd h List.not_mem_nil) XST_P_ok
def wP_begin (f : Nat → Int32 → Int32 → Int32 → XH → XR) : List Value → List Value → XH → XR := fun vs st h => match vs, st with
  | [.ref a0, .int x1, .int x2, .int x3], [] => f a0 x1 x2 x3 h
  | _, _ => none
set_option maxRecDepth 100000 in
theorem eP_begin (a0 : Nat) (x1 : Int32) (x2 : Int32) (x3 : Int32) (h : XH) : qP_begin a0 x1 x2 x3 h = xrun BP_begin (xfind []) 20 0 (List.zip [0, 1, 2, 3] [.ref a0, .int x1, .int x2, .int x3]) [] h := rfl
theorem tP_begin : XTo cX5_begin 4 RX5 0 0 0 0 [0, 1, 2, 3] (wP_begin (qP_begin)) := by
  refine XTo.run (B := BP_begin) (cut := xfind []) kP_begin (xcuts_ok (fun _ h => absurd h List.not_mem_nil)) 20 (fun vs st h r hr => ?_)
  unfold wP_begin at hr
  split at hr
  · exact (eP_begin _ _ _ _ _).symm.trans hr
  · cases hr
def FP_begin : List Value → XH → XR := fun vs h => match vs with
  | [.ref a0, .int x1, .int x2, .int x3] => qP_begin a0 x1 x2 x3 h
  | _ => none
theorem SP_begin : XS yX5_begin cX5_begin 4 none (xrm 0 0) FP_begin := by
  refine XS.of (own := RX5) (by decide) rfl (rk := 0) rfl (tP_begin) (fun vs h r hr => ?_)
  unfold FP_begin at hr
  split at hr
  · exact ⟨rfl, Nat.le_of_ble_eq_true rfl, hr⟩
  · cases hr
-- LineDiagram$Parser.readBoard(LLineDiagram$Text;LLineDiagram$Plan;)Z
def rPs_readBoard : List (Nat × XRow) := [(0, (.aload_n 0, 1, 0, .null, [])),
  (1, (.aload_n 1, 2, 1, .null, [])),
  (2, (.iconst 5, 3, 0, .int (5 : Int32), [])),
  (3, (.invokevirtual 45, 6, 45, .null, [])),
  (6, (.ifCond .eq 14, 9, 20, .null, [])),
  (9, (.aload_n 0, 10, 0, .null, [])),
  (10, (.aload_n 1, 11, 1, .null, [])),
  (11, (.iconst 4, 12, 0, .int (4 : Int32), [])),
  (12, (.bipush 40, 14, 0, .int (40 : Int32), [])),
  (14, (.invokevirtual 49, 17, 49, .null, [])),
  (17, (.ifCond .ne 5, 20, 22, .null, [])),
  (20, (.iconst 0, 21, 0, .int (0 : Int32), [])),
  (21, (.ireturn, 22, 0, .null, [])),
  (22, (.aload_n 0, 23, 0, .null, [])),
  (23, (.getfield 53, 26, 53, .null, [])),
  (26, (.istore_n 3, 27, 3, .null, [])),
  (27, (.aload_n 0, 28, 0, .null, [])),
  (28, (.aload_n 1, 29, 1, .null, [])),
  (29, (.iconst 4, 30, 0, .int (4 : Int32), [])),
  (30, (.bipush 40, 32, 0, .int (40 : Int32), [])),
  (32, (.invokevirtual 49, 35, 49, .null, [])),
  (35, (.ifCond .ne 5, 38, 40, .null, [])),
  (38, (.iconst 0, 39, 0, .int (0 : Int32), [])),
  (39, (.ireturn, 40, 0, .null, [])),
  (40, (.aload_n 0, 41, 0, .null, [])),
  (41, (.getfield 53, 44, 53, .null, [])),
  (44, (.istore 4, 46, 4, .null, [])),
  (46, (.aload_n 0, 47, 0, .null, [])),
  (47, (.aload_n 1, 48, 1, .null, [])),
  (48, (.bipush 6, 50, 0, .int (6 : Int32), [])),
  (50, (.invokevirtual 45, 53, 45, .null, [])),
  (53, (.ifCond .eq 13, 56, 66, .null, [])),
  (56, (.aload_n 0, 57, 0, .null, [])),
  (57, (.aload_n 1, 58, 1, .null, [])),
  (58, (.iconst 0, 59, 0, .int (0 : Int32), [])),
  (59, (.iconst 3, 60, 0, .int (3 : Int32), [])),
  (60, (.invokevirtual 49, 63, 49, .null, [])),
  (63, (.ifCond .ne 5, 66, 68, .null, [])),
  (66, (.iconst 0, 67, 0, .int (0 : Int32), [])),
  (67, (.ireturn, 68, 0, .null, [])),
  (68, (.aload_n 2, 69, 2, .null, [])),
  (69, (.iload_n 3, 70, 3, .null, [])),
  (70, (.iload 4, 72, 4, .null, [])),
  (72, (.aload_n 0, 73, 0, .null, [])),
  (73, (.getfield 53, 76, 53, .null, [])),
  (76, (.invokevirtual 56, 79, 56, .null, [])),
  (79, (.aload_n 0, 80, 0, .null, [])),
  (80, (.aload_n 1, 81, 1, .null, [])),
  (81, (.iconst 3, 82, 0, .int (3 : Int32), [])),
  (82, (.invokevirtual 45, 85, 45, .null, [])),
  (85, (.ireturn, 86, 0, .null, []))]
def mPs_readBoard : List (Nat × XM) := [(45, (3, 1, some 4, FPs_pass)), (49, (4, 1, some 4, FPs_readNumber)), (56, (4, 0, some 5, FP_begin))]
abbrev BPs_readBoard : XB := (rPs_readBoard, XFT_Ps, mPs_readBoard, 6, XST_Ps)
set_option maxRecDepth 100000 in
theorem kPs_readBoard : XOK BPs_readBoard cX4_readBoard 5 RX4 4 88 := xok_of (cps := []) (K := XKT_Ps) (by decide +kernel) XKT_Ps_ok (fun _ h => absurd h List.not_mem_nil) XFT_Ps_ok (List.forall_mem_cons.mpr ⟨⟨_, _, _, _, _, _, _, SPs_pass, rfl, rfl, Nat.le_of_ble_eq_true rfl, Nat.le_of_ble_eq_true rfl, cdPs_pass, lkPs_45, imPs_pass, slPs_pass, inPs_pass, pmPs_pass⟩, List.forall_mem_cons.mpr ⟨⟨_, _, _, _, _, _, _, SPs_readNumber, rfl, rfl, Nat.le_of_ble_eq_true rfl, Nat.le_of_ble_eq_true rfl, cdPs_readNumber, lkPs_49, imPs_readNumber, slPs_readNumber, inPs_readNumber, pmPs_readNumber⟩, List.forall_mem_cons.mpr ⟨⟨_, _, _, _, _, _, _, SP_begin, rfl, rfl, Nat.le_of_ble_eq_true rfl, Nat.le_of_ble_eq_true rfl, cdP_begin, lkPs_56, imP_begin, slP_begin, inP_begin, pmP_begin⟩, fun _ h => absurd h List.not_mem_nil⟩⟩⟩) XST_Ps_ok
def wPs_readBoard (f : Nat → Nat → Nat → XH → XR) : List Value → List Value → XH → XR := fun vs st h => match vs, st with
  | [.ref a0, .ref a1, .ref a2], [] => f a0 a1 a2 h
  | _, _ => none
set_option maxRecDepth 100000 in
theorem ePs_readBoard (a0 : Nat) (a1 : Nat) (a2 : Nat) (h : XH) : qPs_readBoard a0 a1 a2 h = xrun BPs_readBoard (xfind []) 54 0 (List.zip [0, 1, 2] [.ref a0, .ref a1, .ref a2]) [] h := rfl
theorem tPs_readBoard : XTo cX4_readBoard 5 RX4 6 4 88 0 [0, 1, 2] (wPs_readBoard (qPs_readBoard)) := by
  refine XTo.run (B := BPs_readBoard) (cut := xfind []) kPs_readBoard (xcuts_ok (fun _ h => absurd h List.not_mem_nil)) 54 (fun vs st h r hr => ?_)
  unfold wPs_readBoard at hr
  split at hr
  · exact (ePs_readBoard _ _ _ _).symm.trans hr
  · cases hr
def FPs_readBoard : List Value → XH → XR := fun vs h => match vs with
  | [.ref a0, .ref a1, .ref a2] => qPs_readBoard a0 a1 a2 h
  | _ => none
theorem SPs_readBoard : XS yX4_readBoard cX4_readBoard 5 (some .boolean) (xrm 4 88) FPs_readBoard := by
  refine XS.of (own := RX4) (by decide) rfl (rk := 6) rfl (tPs_readBoard) (fun vs h r hr => ?_)
  unfold FPs_readBoard at hr
  split at hr
  · exact ⟨rfl, Nat.le_of_ble_eq_true rfl, hr⟩
  · cases hr
-- LineDiagram$Plan.lineNamed(I)I
def rP_lineNamed : List (Nat × XRow) := [(0, (.iconst 0, 1, 0, .int (0 : Int32), [])),
  (1, (.istore_n 2, 2, 2, .null, [])),
  (2, (.iload_n 2, 3, 2, .null, [])),
  (3, (.aload_n 0, 4, 0, .null, [])),
  (4, (.getfield 35, 7, 35, .null, [])),
  (7, (.if_icmp .ge 24, 10, 31, .null, [])),
  (10, (.aload_n 0, 11, 0, .null, [])),
  (11, (.getfield 11, 14, 11, .null, [])),
  (14, (.iload_n 2, 15, 2, .null, [])),
  (15, (.aaload, 16, 0, .null, [])),
  (16, (.getfield 51, 19, 51, .null, [])),
  (19, (.iload_n 1, 20, 1, .null, [])),
  (20, (.if_icmp .ne 5, 23, 25, .null, [])),
  (23, (.iload_n 2, 24, 2, .null, [])),
  (24, (.ireturn, 25, 0, .null, [])),
  (25, (.iinc 2 1, 28, 2, .int (1 : Int32), [])),
  (28, (.goto (-26), 31, 2, .null, [])),
  (31, (.iconst (-1), 32, 0, .int (-1 : Int32), [])),
  (32, (.ireturn, 33, 0, .null, []))]
def mP_lineNamed : List (Nat × XM) := []
abbrev BP_lineNamed : XB := (rP_lineNamed, XFT_P, mP_lineNamed, 1, XST_P)
set_option maxRecDepth 100000 in
theorem kP_lineNamed : XOK BP_lineNamed cX5_lineNamed 3 RX5 0 0 := xok_of (cps := []) (K := XKT_P) (by decide +kernel) XKT_P_ok (fun _ h => absurd h List.not_mem_nil) XFT_P_ok (fun _ h => absurd h List.not_mem_nil) XST_P_ok
def wP_lineNamed_2 (f : Nat → Int32 → Int32 → XH → XR) : List Value → List Value → XH → XR := fun vs st h => match vs, st with
  | [.ref a0, .int x1, .int x2], [] => f a0 x1 x2 h
  | _, _ => none
def wP_lineNamed (f : Nat → Int32 → XH → XR) : List Value → List Value → XH → XR := fun vs st h => match vs, st with
  | [.ref a0, .int x1], [] => f a0 x1 h
  | _, _ => none
set_option maxRecDepth 100000 in
theorem eP_lineNamed_2_b (k2 : Nat → Int32 → Int32 → XH → XR) (a0 : Nat) (x1 : Int32) (x2 : Int32) (h : XH) : qP_lineNamed_2_b k2 a0 x1 x2 h = xrun BP_lineNamed (xfind [(2, ([0, 1, 2], wP_lineNamed_2 (k2)))]) 22 2 (List.zip [0, 1, 2] [.ref a0, .int x1, .int x2]) [] h := rfl
theorem tP_lineNamed_2_b {k2 : Nat → Int32 → Int32 → XH → XR} (hk2 : XTo cX5_lineNamed 3 RX5 1 0 0 2 [0, 1, 2] (wP_lineNamed_2 k2)) : XTo cX5_lineNamed 3 RX5 1 0 0 2 [0, 1, 2] (wP_lineNamed_2 (qP_lineNamed_2_b k2)) := by
  refine XTo.run (B := BP_lineNamed) (cut := xfind [(2, ([0, 1, 2], wP_lineNamed_2 (k2)))]) kP_lineNamed (xcuts_ok (List.forall_mem_cons.mpr ⟨hk2, fun _ h => absurd h List.not_mem_nil⟩)) 22 (fun vs st h r hr => ?_)
  unfold wP_lineNamed_2 at hr
  split at hr
  · exact (eP_lineNamed_2_b k2 _ _ _ _).symm.trans hr
  · cases hr
theorem tP_lineNamed_2 : ∀ n : Nat, XTo cX5_lineNamed 3 RX5 1 0 0 2 [0, 1, 2] (wP_lineNamed_2 (qP_lineNamed_2 n)) := by
  intro n
  induction n with
  | zero =>
    refine XTo.none fun vs st h => ?_
    unfold wP_lineNamed_2
    split <;> rfl
  | succ n ih => exact tP_lineNamed_2_b  ih
set_option maxRecDepth 100000 in
theorem eP_lineNamed (a0 : Nat) (x1 : Int32) (h : XH) : qP_lineNamed a0 x1 h = xrun BP_lineNamed (xfind [(2, ([0, 1, 2], wP_lineNamed_2 (qP_lineNamed_2 LF)))]) 22 0 (List.zip [0, 1] [.ref a0, .int x1]) [] h := rfl
theorem tP_lineNamed : XTo cX5_lineNamed 3 RX5 1 0 0 0 [0, 1] (wP_lineNamed (qP_lineNamed)) := by
  refine XTo.run (B := BP_lineNamed) (cut := xfind [(2, ([0, 1, 2], wP_lineNamed_2 (qP_lineNamed_2 LF)))]) kP_lineNamed (xcuts_ok (List.forall_mem_cons.mpr ⟨tP_lineNamed_2 LF, fun _ h => absurd h List.not_mem_nil⟩)) 22 (fun vs st h r hr => ?_)
  unfold wP_lineNamed at hr
  split at hr
  · exact (eP_lineNamed _ _ _).symm.trans hr
  · cases hr
def FP_lineNamed : List Value → XH → XR := fun vs h => match vs with
  | [.ref a0, .int x1] => qP_lineNamed a0 x1 h
  | _ => none
theorem SP_lineNamed : XS yX5_lineNamed cX5_lineNamed 3 (some .int) (xrm 0 0) FP_lineNamed := by
  refine XS.of (own := RX5) (by decide) rfl (rk := 1) rfl (tP_lineNamed) (fun vs h r hr => ?_)
  unfold FP_lineNamed at hr
  split at hr
  · exact ⟨rfl, Nat.le_of_ble_eq_true rfl, hr⟩
  · cases hr
-- LineDiagram$Parser.readHead(LLineDiagram$Text;LLineDiagram$Plan;LLineDiagram$Line;)Z
def rPs_readHead : List (Nat × XRow) := [(0, (.aload_n 3, 1, 3, .null, [])),
  (1, (.iconst 0, 2, 0, .int (0 : Int32), [])),
  (2, (.putfield 60, 5, 60, .null, [])),
  (5, (.aload_n 0, 6, 0, .null, [])),
  (6, (.aload_n 1, 7, 1, .null, [])),
  (7, (.bipush 7, 9, 0, .int (7 : Int32), [])),
  (9, (.invokevirtual 45, 12, 45, .null, [])),
  (12, (.ifCond .eq 22, 15, 34, .null, [])),
  (15, (.aload_n 0, 16, 0, .null, [])),
  (16, (.getfield 26, 19, 26, .null, [])),
  (19, (.iconst 4, 20, 0, .int (4 : Int32), [])),
  (20, (.if_icmp .ne 14, 23, 34, .null, [])),
  (23, (.aload_n 2, 24, 2, .null, [])),
  (24, (.aload_n 0, 25, 0, .null, [])),
  (25, (.getfield 65, 28, 65, .null, [])),
  (28, (.invokevirtual 68, 31, 68, .null, [])),
  (31, (.ifCond .lt 5, 34, 36, .null, [])),
  (34, (.iconst 0, 35, 0, .int (0 : Int32), [])),
  (35, (.ireturn, 36, 0, .null, [])),
  (36, (.aload_n 3, 37, 3, .null, [])),
  (37, (.aload_n 0, 38, 0, .null, [])),
  (38, (.getfield 65, 41, 65, .null, [])),
  (41, (.putfield 72, 44, 72, .null, [])),
  (44, (.aload_n 0, 45, 0, .null, [])),
  (45, (.aload_n 1, 46, 1, .null, [])),
  (46, (.invokevirtual 15, 49, 15, .null, [])),
  (49, (.aload_n 0, 50, 0, .null, [])),
  (50, (.aload_n 1, 51, 1, .null, [])),
  (51, (.bipush 8, 53, 0, .int (8 : Int32), [])),
  (53, (.invokevirtual 45, 56, 45, .null, [])),
  (56, (.ifCond .eq 14, 59, 70, .null, [])),
  (59, (.aload_n 0, 60, 0, .null, [])),
  (60, (.aload_n 1, 61, 1, .null, [])),
  (61, (.iconst 1, 62, 0, .int (1 : Int32), [])),
  (62, (.bipush 10, 64, 0, .int (10 : Int32), [])),
  (64, (.invokevirtual 49, 67, 49, .null, [])),
  (67, (.ifCond .ne 5, 70, 72, .null, [])),
  (70, (.iconst 0, 71, 0, .int (0 : Int32), [])),
  (71, (.ireturn, 72, 0, .null, [])),
  (72, (.aload_n 3, 73, 3, .null, [])),
  (73, (.aload_n 0, 74, 0, .null, [])),
  (74, (.getfield 53, 77, 53, .null, [])),
  (77, (.putfield 75, 80, 75, .null, [])),
  (80, (.aload_n 0, 81, 0, .null, [])),
  (81, (.aload_n 1, 82, 1, .null, [])),
  (82, (.bipush 9, 84, 0, .int (9 : Int32), [])),
  (84, (.invokevirtual 45, 87, 45, .null, [])),
  (87, (.ifCond .eq 14, 90, 101, .null, [])),
  (90, (.aload_n 0, 91, 0, .null, [])),
  (91, (.aload_n 1, 92, 1, .null, [])),
  (92, (.iconst 2, 93, 0, .int (2 : Int32), [])),
  (93, (.bipush 20, 95, 0, .int (20 : Int32), [])),
  (95, (.invokevirtual 49, 98, 49, .null, [])),
  (98, (.ifCond .ne 5, 101, 103, .null, [])),
  (101, (.iconst 0, 102, 0, .int (0 : Int32), [])),
  (102, (.ireturn, 103, 0, .null, [])),
  (103, (.aload_n 3, 104, 3, .null, [])),
  (104, (.aload_n 0, 105, 0, .null, [])),
  (105, (.getfield 53, 108, 53, .null, [])),
  (108, (.putfield 78, 111, 78, .null, [])),
  (111, (.iconst 1, 112, 0, .int (1 : Int32), [])),
  (112, (.ireturn, 113, 0, .null, []))]
def mPs_readHead : List (Nat × XM) := [(15, (2, 0, some 4, FPs_scan)), (45, (3, 1, some 4, FPs_pass)), (49, (4, 1, some 4, FPs_readNumber)), (68, (2, 1, some 5, FP_lineNamed))]
abbrev BPs_readHead : XB := (rPs_readHead, XFT_Ps, mPs_readHead, 6, XST_Ps)
set_option maxRecDepth 100000 in
theorem kPs_readHead : XOK BPs_readHead cX4_readHead 4 RX4 4 88 := xok_of (cps := []) (K := XKT_Ps) (by decide +kernel) XKT_Ps_ok (fun _ h => absurd h List.not_mem_nil) XFT_Ps_ok (List.forall_mem_cons.mpr ⟨⟨_, _, _, _, _, _, _, SPs_scan, rfl, rfl, Nat.le_of_ble_eq_true rfl, Nat.le_of_ble_eq_true rfl, cdPs_scan, lkPs_15, imPs_scan, slPs_scan, inPs_scan, pmPs_scan⟩, List.forall_mem_cons.mpr ⟨⟨_, _, _, _, _, _, _, SPs_pass, rfl, rfl, Nat.le_of_ble_eq_true rfl, Nat.le_of_ble_eq_true rfl, cdPs_pass, lkPs_45, imPs_pass, slPs_pass, inPs_pass, pmPs_pass⟩, List.forall_mem_cons.mpr ⟨⟨_, _, _, _, _, _, _, SPs_readNumber, rfl, rfl, Nat.le_of_ble_eq_true rfl, Nat.le_of_ble_eq_true rfl, cdPs_readNumber, lkPs_49, imPs_readNumber, slPs_readNumber, inPs_readNumber, pmPs_readNumber⟩, List.forall_mem_cons.mpr ⟨⟨_, _, _, _, _, _, _, SP_lineNamed, rfl, rfl, Nat.le_of_ble_eq_true rfl, Nat.le_of_ble_eq_true rfl, cdP_lineNamed, lkPs_68, imP_lineNamed, slP_lineNamed, inP_lineNamed, pmP_lineNamed⟩, fun _ h => absurd h List.not_mem_nil⟩⟩⟩⟩) XST_Ps_ok
def wPs_readHead (f : Nat → Nat → Nat → Nat → XH → XR) : List Value → List Value → XH → XR := fun vs st h => match vs, st with
  | [.ref a0, .ref a1, .ref a2, .ref a3], [] => f a0 a1 a2 a3 h
  | _, _ => none
set_option maxRecDepth 100000 in
theorem ePs_readHead (a0 : Nat) (a1 : Nat) (a2 : Nat) (a3 : Nat) (h : XH) : qPs_readHead a0 a1 a2 a3 h = xrun BPs_readHead (xfind []) 65 0 (List.zip [0, 1, 2, 3] [.ref a0, .ref a1, .ref a2, .ref a3]) [] h := rfl
theorem tPs_readHead : XTo cX4_readHead 4 RX4 6 4 88 0 [0, 1, 2, 3] (wPs_readHead (qPs_readHead)) := by
  refine XTo.run (B := BPs_readHead) (cut := xfind []) kPs_readHead (xcuts_ok (fun _ h => absurd h List.not_mem_nil)) 65 (fun vs st h r hr => ?_)
  unfold wPs_readHead at hr
  split at hr
  · exact (ePs_readHead _ _ _ _ _).symm.trans hr
  · cases hr
def FPs_readHead : List Value → XH → XR := fun vs h => match vs with
  | [.ref a0, .ref a1, .ref a2, .ref a3] => qPs_readHead a0 a1 a2 a3 h
  | _ => none
theorem SPs_readHead : XS yX4_readHead cX4_readHead 4 (some .boolean) (xrm 4 88) FPs_readHead := by
  refine XS.of (own := RX4) (by decide) rfl (rk := 6) rfl (tPs_readHead) (fun vs h r hr => ?_)
  unfold FPs_readHead at hr
  split at hr
  · exact ⟨rfl, Nat.le_of_ble_eq_true rfl, hr⟩
  · cases hr
