def wL_law_1721 (f : Nat → Nat → Nat → Int32 → XH → XR) : List Value → List Value → XH → XR := fun vs st h => match vs, st with
  | [.ref a0, .ref a1, .ref a2, .int x3], [] => f a0 a1 a2 x3 h
  | _, _ => none
def wL_law_236 (f : Nat → Nat → Nat → Int32 → XH → XR) : List Value → List Value → XH → XR := fun vs st h => match vs, st with
  | [.ref a0, .ref a1, .ref a2, .int x3], [] => f a0 a1 a2 x3 h
  | _, _ => none
def wL_law_299 (f : Nat → Nat → Nat → Int32 → XH → XR) : List Value → List Value → XH → XR := fun vs st h => match vs, st with
  | [.ref a0, .ref a1, .ref a2, .int x3], [] => f a0 a1 a2 x3 h
  | _, _ => none
def wL_law_322 (f : Nat → Nat → Nat → Int32 → XH → XR) : List Value → List Value → XH → XR := fun vs st h => match vs, st with
  | [.ref a0, .ref a1, .ref a2, .int x3], [] => f a0 a1 a2 x3 h
  | _, _ => none
def wL_law_335 (f : Nat → Nat → Nat → Int32 → XH → XR) : List Value → List Value → XH → XR := fun vs st h => match vs, st with
  | [.ref a0, .ref a1, .ref a2, .int x3], [] => f a0 a1 a2 x3 h
  | _, _ => none
def wL_law_348 (f : Nat → Nat → Nat → Int32 → XH → XR) : List Value → List Value → XH → XR := fun vs st h => match vs, st with
  | [.ref a0, .ref a1, .ref a2, .int x3], [] => f a0 a1 a2 x3 h
  | _, _ => none
def wL_law_401 (f : Nat → Nat → Nat → Int32 → XH → XR) : List Value → List Value → XH → XR := fun vs st h => match vs, st with
  | [.ref a0, .ref a1, .ref a2, .int x3], [] => f a0 a1 a2 x3 h
  | _, _ => none
def wL_law_454 (f : Nat → Nat → Nat → Int32 → XH → XR) : List Value → List Value → XH → XR := fun vs st h => match vs, st with
  | [.ref a0, .ref a1, .ref a2, .int x3], [] => f a0 a1 a2 x3 h
  | _, _ => none
def wL_law_487 (f : Nat → Nat → Nat → Int32 → XH → XR) : List Value → List Value → XH → XR := fun vs st h => match vs, st with
  | [.ref a0, .ref a1, .ref a2, .int x3], [] => f a0 a1 a2 x3 h
  | _, _ => none
def wL_law_510 (f : Nat → Nat → Nat → Int32 → XH → XR) : List Value → List Value → XH → XR := fun vs st h => match vs, st with
  | [.ref a0, .ref a1, .ref a2, .int x3], [] => f a0 a1 a2 x3 h
  | _, _ => none
def wL_law_543 (f : Nat → Nat → Nat → Int32 → XH → XR) : List Value → List Value → XH → XR := fun vs st h => match vs, st with
  | [.ref a0, .ref a1, .ref a2, .int x3], [] => f a0 a1 a2 x3 h
  | _, _ => none
def wL_law_576 (f : Nat → Nat → Nat → Int32 → XH → XR) : List Value → List Value → XH → XR := fun vs st h => match vs, st with
  | [.ref a0, .ref a1, .ref a2, .int x3], [] => f a0 a1 a2 x3 h
  | _, _ => none
def wL_law_619 (f : Nat → Nat → Nat → Int32 → XH → XR) : List Value → List Value → XH → XR := fun vs st h => match vs, st with
  | [.ref a0, .ref a1, .ref a2, .int x3], [] => f a0 a1 a2 x3 h
  | _, _ => none
def wL_law_652 (f : Nat → Nat → Nat → Int32 → XH → XR) : List Value → List Value → XH → XR := fun vs st h => match vs, st with
  | [.ref a0, .ref a1, .ref a2, .int x3], [] => f a0 a1 a2 x3 h
  | _, _ => none
def wL_law_685 (f : Nat → Nat → Nat → Int32 → XH → XR) : List Value → List Value → XH → XR := fun vs st h => match vs, st with
  | [.ref a0, .ref a1, .ref a2, .int x3], [] => f a0 a1 a2 x3 h
  | _, _ => none
def wL_law_698 (f : Nat → Nat → Nat → Int32 → XH → XR) : List Value → List Value → XH → XR := fun vs st h => match vs, st with
  | [.ref a0, .ref a1, .ref a2, .int x3], [] => f a0 a1 a2 x3 h
  | _, _ => none
def wL_law_721 (f : Nat → Nat → Nat → Int32 → XH → XR) : List Value → List Value → XH → XR := fun vs st h => match vs, st with
  | [.ref a0, .ref a1, .ref a2, .int x3], [] => f a0 a1 a2 x3 h
  | _, _ => none
def wL_law_744 (f : Nat → Nat → Nat → Int32 → XH → XR) : List Value → List Value → XH → XR := fun vs st h => match vs, st with
  | [.ref a0, .ref a1, .ref a2, .int x3], [] => f a0 a1 a2 x3 h
  | _, _ => none
def wL_law_757 (f : Nat → Nat → Nat → Int32 → XH → XR) : List Value → List Value → XH → XR := fun vs st h => match vs, st with
  | [.ref a0, .ref a1, .ref a2, .int x3], [] => f a0 a1 a2 x3 h
  | _, _ => none
def wL_law_780 (f : Nat → Nat → Nat → Int32 → XH → XR) : List Value → List Value → XH → XR := fun vs st h => match vs, st with
  | [.ref a0, .ref a1, .ref a2, .int x3], [] => f a0 a1 a2 x3 h
  | _, _ => none
def wL_law_864 (f : Nat → Nat → Nat → Int32 → Int32 → Int32 → Int32 → Nat → Int32 → XH → XR) : List Value → List Value → XH → XR := fun vs st h => match vs, st with
  | [.ref a0, .ref a1, .ref a2, .int x3], [.int s0, .int s1, .int s2, .ref s3, .int s4] => f a0 a1 a2 x3 s0 s1 s2 s3 s4 h
  | _, _ => none
def wL_law_837 (f : Nat → Nat → Nat → Int32 → Int32 → Int32 → Int32 → Nat → XH → XR) : List Value → List Value → XH → XR := fun vs st h => match vs, st with
  | [.ref a0, .ref a1, .ref a2, .int x3], [.int s0, .int s1, .int s2, .ref s3] => f a0 a1 a2 x3 s0 s1 s2 s3 h
  | _, _ => none
def wL_law_813 (f : Nat → Nat → Nat → Int32 → XH → XR) : List Value → List Value → XH → XR := fun vs st h => match vs, st with
  | [.ref a0, .ref a1, .ref a2, .int x3], [] => f a0 a1 a2 x3 h
  | _, _ => none
def wL_law_872 (f : Nat → Nat → Nat → Int32 → XH → XR) : List Value → List Value → XH → XR := fun vs st h => match vs, st with
  | [.ref a0, .ref a1, .ref a2, .int x3], [] => f a0 a1 a2 x3 h
  | _, _ => none
def wL_law_905 (f : Nat → Nat → Nat → Int32 → XH → XR) : List Value → List Value → XH → XR := fun vs st h => match vs, st with
  | [.ref a0, .ref a1, .ref a2, .int x3], [] => f a0 a1 a2 x3 h
  | _, _ => none
def wL_law_948 (f : Nat → Nat → Nat → Int32 → XH → XR) : List Value → List Value → XH → XR := fun vs st h => match vs, st with
  | [.ref a0, .ref a1, .ref a2, .int x3], [] => f a0 a1 a2 x3 h
  | _, _ => none
def wL_law_981 (f : Nat → Nat → Nat → Int32 → XH → XR) : List Value → List Value → XH → XR := fun vs st h => match vs, st with
  | [.ref a0, .ref a1, .ref a2, .int x3], [] => f a0 a1 a2 x3 h
  | _, _ => none
def wL_law_1014 (f : Nat → Nat → Nat → Int32 → XH → XR) : List Value → List Value → XH → XR := fun vs st h => match vs, st with
  | [.ref a0, .ref a1, .ref a2, .int x3], [] => f a0 a1 a2 x3 h
  | _, _ => none
def wL_law_1037 (f : Nat → Nat → Nat → Int32 → XH → XR) : List Value → List Value → XH → XR := fun vs st h => match vs, st with
  | [.ref a0, .ref a1, .ref a2, .int x3], [] => f a0 a1 a2 x3 h
  | _, _ => none
def wL_law_1050 (f : Nat → Nat → Nat → Int32 → XH → XR) : List Value → List Value → XH → XR := fun vs st h => match vs, st with
  | [.ref a0, .ref a1, .ref a2, .int x3], [] => f a0 a1 a2 x3 h
  | _, _ => none
def wL_law_1083 (f : Nat → Nat → Nat → Int32 → XH → XR) : List Value → List Value → XH → XR := fun vs st h => match vs, st with
  | [.ref a0, .ref a1, .ref a2, .int x3], [] => f a0 a1 a2 x3 h
  | _, _ => none
def wL_law_1126 (f : Nat → Nat → Nat → Int32 → XH → XR) : List Value → List Value → XH → XR := fun vs st h => match vs, st with
  | [.ref a0, .ref a1, .ref a2, .int x3], [] => f a0 a1 a2 x3 h
  | _, _ => none
def wL_law_1149 (f : Nat → Nat → Nat → Int32 → XH → XR) : List Value → List Value → XH → XR := fun vs st h => match vs, st with
  | [.ref a0, .ref a1, .ref a2, .int x3], [] => f a0 a1 a2 x3 h
  | _, _ => none
def wL_law_1202 (f : Nat → Nat → Nat → Int32 → XH → XR) : List Value → List Value → XH → XR := fun vs st h => match vs, st with
  | [.ref a0, .ref a1, .ref a2, .int x3], [] => f a0 a1 a2 x3 h
  | _, _ => none
def wL_law_1255 (f : Nat → Nat → Nat → Int32 → XH → XR) : List Value → List Value → XH → XR := fun vs st h => match vs, st with
  | [.ref a0, .ref a1, .ref a2, .int x3], [] => f a0 a1 a2 x3 h
  | _, _ => none
def wL_law_1288 (f : Nat → Nat → Nat → Int32 → XH → XR) : List Value → List Value → XH → XR := fun vs st h => match vs, st with
  | [.ref a0, .ref a1, .ref a2, .int x3], [] => f a0 a1 a2 x3 h
  | _, _ => none
def wL_law_1331 (f : Nat → Nat → Nat → Int32 → XH → XR) : List Value → List Value → XH → XR := fun vs st h => match vs, st with
  | [.ref a0, .ref a1, .ref a2, .int x3], [] => f a0 a1 a2 x3 h
  | _, _ => none
def wL_law_1364 (f : Nat → Nat → Nat → Int32 → XH → XR) : List Value → List Value → XH → XR := fun vs st h => match vs, st with
  | [.ref a0, .ref a1, .ref a2, .int x3], [] => f a0 a1 a2 x3 h
  | _, _ => none
def wL_law_1397 (f : Nat → Nat → Nat → Int32 → XH → XR) : List Value → List Value → XH → XR := fun vs st h => match vs, st with
  | [.ref a0, .ref a1, .ref a2, .int x3], [] => f a0 a1 a2 x3 h
  | _, _ => none
def wL_law_1410 (f : Nat → Nat → Nat → Int32 → XH → XR) : List Value → List Value → XH → XR := fun vs st h => match vs, st with
  | [.ref a0, .ref a1, .ref a2, .int x3], [] => f a0 a1 a2 x3 h
  | _, _ => none
def wL_law_1473 (f : Nat → Nat → Nat → Int32 → XH → XR) : List Value → List Value → XH → XR := fun vs st h => match vs, st with
  | [.ref a0, .ref a1, .ref a2, .int x3], [] => f a0 a1 a2 x3 h
  | _, _ => none
def wL_law_1506 (f : Nat → Nat → Nat → Int32 → XH → XR) : List Value → List Value → XH → XR := fun vs st h => match vs, st with
  | [.ref a0, .ref a1, .ref a2, .int x3], [] => f a0 a1 a2 x3 h
  | _, _ => none
def wL_law_1519 (f : Nat → Nat → Nat → Int32 → XH → XR) : List Value → List Value → XH → XR := fun vs st h => match vs, st with
  | [.ref a0, .ref a1, .ref a2, .int x3], [] => f a0 a1 a2 x3 h
  | _, _ => none
def wL_law_1572 (f : Nat → Nat → Nat → Int32 → XH → XR) : List Value → List Value → XH → XR := fun vs st h => match vs, st with
  | [.ref a0, .ref a1, .ref a2, .int x3], [] => f a0 a1 a2 x3 h
  | _, _ => none
def wL_law_1613 (f : Nat → Nat → Nat → Int32 → XH → XR) : List Value → List Value → XH → XR := fun vs st h => match vs, st with
  | [.ref a0, .ref a1, .ref a2, .int x3], [] => f a0 a1 a2 x3 h
  | _, _ => none
def wL_law_1636 (f : Nat → Nat → Nat → Int32 → XH → XR) : List Value → List Value → XH → XR := fun vs st h => match vs, st with
  | [.ref a0, .ref a1, .ref a2, .int x3], [] => f a0 a1 a2 x3 h
  | _, _ => none
def wL_law_1649 (f : Nat → Nat → Nat → Int32 → XH → XR) : List Value → List Value → XH → XR := fun vs st h => match vs, st with
  | [.ref a0, .ref a1, .ref a2, .int x3], [] => f a0 a1 a2 x3 h
  | _, _ => none
def wL_law_1672 (f : Nat → Nat → Nat → Int32 → XH → XR) : List Value → List Value → XH → XR := fun vs st h => match vs, st with
  | [.ref a0, .ref a1, .ref a2, .int x3], [] => f a0 a1 a2 x3 h
  | _, _ => none
def wL_law_1685 (f : Nat → Nat → Nat → Int32 → XH → XR) : List Value → List Value → XH → XR := fun vs st h => match vs, st with
  | [.ref a0, .ref a1, .ref a2, .int x3], [] => f a0 a1 a2 x3 h
  | _, _ => none
def wL_law_1708 (f : Nat → Nat → Nat → Int32 → XH → XR) : List Value → List Value → XH → XR := fun vs st h => match vs, st with
  | [.ref a0, .ref a1, .ref a2, .int x3], [] => f a0 a1 a2 x3 h
  | _, _ => none
def wL_law_18 (f : Nat → Nat → Nat → Int32 → XH → XR) : List Value → List Value → XH → XR := fun vs st h => match vs, st with
  | [.ref a0, .ref a1, .ref a2, .int x3], [] => f a0 a1 a2 x3 h
  | _, _ => none
def rL_law_1721 : List (Nat × XRow) := [(1721, (.iinc 3 6, 1724, 3, .int (6 : Int32), [])),
  (1724, (.goto (-1706), 1727, 18, .null, []))]
def mL_law_1721 : List (Nat × XM) := []
abbrev BL_law_1721 : XB := (rL_law_1721, [], mL_law_1721, 6, [])
set_option maxRecDepth 100000 in
theorem kL_law_1721 : XOK BL_law_1721 code 8 RL 11 416 := xok_of (cps := []) (K := []) (by decide +kernel) (fun _ h => absurd h List.not_mem_nil) (fun _ h => absurd h List.not_mem_nil) (fun _ _ _ _ h => by cases h) (fun _ h => absurd h List.not_mem_nil) (fun _ _ _ h => by cases h)
set_option maxRecDepth 100000 in
theorem eL_law_1721 (k18 : Nat → Nat → Nat → Int32 → XH → XR) (a0 : Nat) (a1 : Nat) (a2 : Nat) (x3 : Int32) (h : XH) : qL_law_1721 k18 a0 a1 a2 x3 h = xrun BL_law_1721 (xfind [(18, ([0, 1, 2, 3], wL_law_18 (k18)))]) 5 1721 (List.zip [0, 1, 2, 3] [.ref a0, .ref a1, .ref a2, .int x3]) [] h := rfl
theorem tL_law_1721 {k18 : Nat → Nat → Nat → Int32 → XH → XR} (hk18 : XToR room_1 600000 7302250 code 8 RL 6 18 [0, 1, 2, 3] (wL_law_18 k18)) : XToR room_1 600000 7302250 code 8 RL 6 1721 [0, 1, 2, 3] (wL_law_1721 (qL_law_1721 k18)) := by
  refine XToR.run (B := BL_law_1721) (cut := xfind [(18, ([0, 1, 2, 3], wL_law_18 (k18)))]) ⟨Nat.le_of_ble_eq_true rfl, Nat.le_of_ble_eq_true rfl⟩ kL_law_1721 (xcutsR_ok (List.forall_mem_cons.mpr ⟨hk18, fun _ h => absurd h List.not_mem_nil⟩)) 5 (fun vs st h r hr => ?_)
  unfold wL_law_1721 at hr
  split at hr
  · exact (eL_law_1721 k18 _ _ _ _ _).symm.trans hr
  · cases hr
def rL_law_236 : List (Nat × XRow) := [(236, (.aload_n 1, 237, 1, .null, [])),
  (237, (.aload_n 0, 238, 0, .null, [])),
  (238, (.iload_n 3, 239, 3, .null, [])),
  (239, (.iconst 1, 240, 0, .int (1 : Int32), [])),
  (240, (.iadd, 241, 0, .null, [])),
  (241, (.iaload, 242, 0, .null, [])),
  (242, (.aload_n 0, 243, 0, .null, [])),
  (243, (.iload_n 3, 244, 3, .null, [])),
  (244, (.iconst 2, 245, 0, .int (2 : Int32), [])),
  (245, (.iadd, 246, 0, .null, [])),
  (246, (.iaload, 247, 0, .null, [])),
  (247, (.aload_n 0, 248, 0, .null, [])),
  (248, (.iload_n 3, 249, 3, .null, [])),
  (249, (.iconst 3, 250, 0, .int (3 : Int32), [])),
  (250, (.iadd, 251, 0, .null, [])),
  (251, (.iaload, 252, 0, .null, [])),
  (252, (.aload_n 0, 253, 0, .null, [])),
  (253, (.iload_n 3, 254, 3, .null, [])),
  (254, (.iconst 4, 255, 0, .int (4 : Int32), [])),
  (255, (.iadd, 256, 0, .null, [])),
  (256, (.iaload, 257, 0, .null, [])),
  (257, (.aload_n 0, 258, 0, .null, [])),
  (258, (.iload_n 3, 259, 3, .null, [])),
  (259, (.iconst 5, 260, 0, .int (5 : Int32), [])),
  (260, (.iadd, 261, 0, .null, [])),
  (261, (.iaload, 262, 0, .null, [])),
  (262, (.invokevirtual 13, 265, 13, .null, [])),
  (265, (.aload_n 2, 266, 2, .null, [])),
  (266, (.aload_n 0, 267, 0, .null, [])),
  (267, (.iload_n 3, 268, 3, .null, [])),
  (268, (.iconst 1, 269, 0, .int (1 : Int32), [])),
  (269, (.iadd, 270, 0, .null, [])),
  (270, (.iaload, 271, 0, .null, [])),
  (271, (.aload_n 0, 272, 0, .null, [])),
  (272, (.iload_n 3, 273, 3, .null, [])),
  (273, (.iconst 2, 274, 0, .int (2 : Int32), [])),
  (274, (.iadd, 275, 0, .null, [])),
  (275, (.iaload, 276, 0, .null, [])),
  (276, (.aload_n 0, 277, 0, .null, [])),
  (277, (.iload_n 3, 278, 3, .null, [])),
  (278, (.iconst 3, 279, 0, .int (3 : Int32), [])),
  (279, (.iadd, 280, 0, .null, [])),
  (280, (.iaload, 281, 0, .null, [])),
  (281, (.aload_n 0, 282, 0, .null, [])),
  (282, (.iload_n 3, 283, 3, .null, [])),
  (283, (.iconst 4, 284, 0, .int (4 : Int32), [])),
  (284, (.iadd, 285, 0, .null, [])),
  (285, (.iaload, 286, 0, .null, [])),
  (286, (.aload_n 0, 287, 0, .null, [])),
  (287, (.iload_n 3, 288, 3, .null, [])),
  (288, (.iconst 5, 289, 0, .int (5 : Int32), [])),
  (289, (.iadd, 290, 0, .null, [])),
  (290, (.iaload, 291, 0, .null, [])),
  (291, (.invokevirtual 17, 294, 17, .null, [])),
  (294, (.if_icmp .eq 1427, 297, 1721, .null, [])),
  (297, (.iconst 0, 298, 0, .int (0 : Int32), [])),
  (298, (.ireturn, 299, 0, .null, []))]
def mL_law_236 : List (Nat × XM) := [(13, (6, 1, some 8, FD_append)), (17, (6, 1, some 9, FM_append))]
abbrev BL_law_236 : XB := (rL_law_236, [], mL_law_236, 6, [])
set_option maxRecDepth 100000 in
theorem kL_law_236 : XOK BL_law_236 code 8 RL 11 416 := xok_of (cps := []) (K := []) (by decide +kernel) (fun _ h => absurd h List.not_mem_nil) (fun _ h => absurd h List.not_mem_nil) (fun _ _ _ _ h => by cases h) (List.forall_mem_cons.mpr ⟨⟨_, _, _, _, _, _, _, SD_append, rfl, rfl, Nat.le_of_ble_eq_true rfl, Nat.le_of_ble_eq_true rfl, cdD_append, lkL_13, imD_append, slD_append, inD_append, pmD_append⟩, List.forall_mem_cons.mpr ⟨⟨_, _, _, _, _, _, _, SM_append, rfl, rfl, Nat.le_of_ble_eq_true rfl, Nat.le_of_ble_eq_true rfl, cdM_append, lkL_17, imM_append, slM_append, inM_append, pmM_append⟩, fun _ h => absurd h List.not_mem_nil⟩⟩) (fun _ _ _ h => by cases h)
set_option maxRecDepth 100000 in
theorem eL_law_236 (k18 : Nat → Nat → Nat → Int32 → XH → XR) (a0 : Nat) (a1 : Nat) (a2 : Nat) (x3 : Int32) (h : XH) : qL_law_236 k18 a0 a1 a2 x3 h = xrun BL_law_236 (xfind [(1721, ([0, 1, 2, 3], wL_law_1721 (qL_law_1721 k18)))]) 60 236 (List.zip [0, 1, 2, 3] [.ref a0, .ref a1, .ref a2, .int x3]) [] h := rfl
theorem tL_law_236 {k18 : Nat → Nat → Nat → Int32 → XH → XR} (hk18 : XToR room_1 600000 7302250 code 8 RL 6 18 [0, 1, 2, 3] (wL_law_18 k18)) : XToR room_1 600000 7302250 code 8 RL 6 236 [0, 1, 2, 3] (wL_law_236 (qL_law_236 k18)) := by
  refine XToR.run (B := BL_law_236) (cut := xfind [(1721, ([0, 1, 2, 3], wL_law_1721 (qL_law_1721 k18)))]) ⟨Nat.le_of_ble_eq_true rfl, Nat.le_of_ble_eq_true rfl⟩ kL_law_236 (xcutsR_ok (List.forall_mem_cons.mpr ⟨tL_law_1721 hk18, fun _ h => absurd h List.not_mem_nil⟩)) 60 (fun vs st h r hr => ?_)
  unfold wL_law_236 at hr
  split at hr
  · exact (eL_law_236 k18 _ _ _ _ _).symm.trans hr
  · cases hr
def rL_law_299 : List (Nat × XRow) := [(299, (.aload_n 1, 300, 1, .null, [])),
  (300, (.aload_n 0, 301, 0, .null, [])),
  (301, (.iload_n 3, 302, 3, .null, [])),
  (302, (.iconst 1, 303, 0, .int (1 : Int32), [])),
  (303, (.iadd, 304, 0, .null, [])),
  (304, (.iaload, 305, 0, .null, [])),
  (305, (.invokevirtual 18, 308, 18, .null, [])),
  (308, (.aload_n 2, 309, 2, .null, [])),
  (309, (.aload_n 0, 310, 0, .null, [])),
  (310, (.iload_n 3, 311, 3, .null, [])),
  (311, (.iconst 1, 312, 0, .int (1 : Int32), [])),
  (312, (.iadd, 313, 0, .null, [])),
  (313, (.iaload, 314, 0, .null, [])),
  (314, (.invokevirtual 22, 317, 22, .null, [])),
  (317, (.if_icmp .eq 1404, 320, 1721, .null, [])),
  (320, (.iconst 0, 321, 0, .int (0 : Int32), [])),
  (321, (.ireturn, 322, 0, .null, []))]
def mL_law_299 : List (Nat × XM) := [(18, (2, 1, some 8, FD_truncate)), (22, (2, 1, some 9, FM_truncate))]
abbrev BL_law_299 : XB := (rL_law_299, [], mL_law_299, 6, [])
set_option maxRecDepth 100000 in
theorem kL_law_299 : XOK BL_law_299 code 8 RL 11 416 := xok_of (cps := []) (K := []) (by decide +kernel) (fun _ h => absurd h List.not_mem_nil) (fun _ h => absurd h List.not_mem_nil) (fun _ _ _ _ h => by cases h) (List.forall_mem_cons.mpr ⟨⟨_, _, _, _, _, _, _, SD_truncate, rfl, rfl, Nat.le_of_ble_eq_true rfl, Nat.le_of_ble_eq_true rfl, cdD_truncate, lkL_18, imD_truncate, slD_truncate, inD_truncate, pmD_truncate⟩, List.forall_mem_cons.mpr ⟨⟨_, _, _, _, _, _, _, SM_truncate, rfl, rfl, Nat.le_of_ble_eq_true rfl, Nat.le_of_ble_eq_true rfl, cdM_truncate, lkL_22, imM_truncate, slM_truncate, inM_truncate, pmM_truncate⟩, fun _ h => absurd h List.not_mem_nil⟩⟩) (fun _ _ _ h => by cases h)
set_option maxRecDepth 100000 in
theorem eL_law_299 (k18 : Nat → Nat → Nat → Int32 → XH → XR) (a0 : Nat) (a1 : Nat) (a2 : Nat) (x3 : Int32) (h : XH) : qL_law_299 k18 a0 a1 a2 x3 h = xrun BL_law_299 (xfind [(1721, ([0, 1, 2, 3], wL_law_1721 (qL_law_1721 k18)))]) 20 299 (List.zip [0, 1, 2, 3] [.ref a0, .ref a1, .ref a2, .int x3]) [] h := rfl
theorem tL_law_299 {k18 : Nat → Nat → Nat → Int32 → XH → XR} (hk18 : XToR room_1 600000 7302250 code 8 RL 6 18 [0, 1, 2, 3] (wL_law_18 k18)) : XToR room_1 600000 7302250 code 8 RL 6 299 [0, 1, 2, 3] (wL_law_299 (qL_law_299 k18)) := by
  refine XToR.run (B := BL_law_299) (cut := xfind [(1721, ([0, 1, 2, 3], wL_law_1721 (qL_law_1721 k18)))]) ⟨Nat.le_of_ble_eq_true rfl, Nat.le_of_ble_eq_true rfl⟩ kL_law_299 (xcutsR_ok (List.forall_mem_cons.mpr ⟨tL_law_1721 hk18, fun _ h => absurd h List.not_mem_nil⟩)) 20 (fun vs st h r hr => ?_)
  unfold wL_law_299 at hr
  split at hr
  · exact (eL_law_299 k18 _ _ _ _ _).symm.trans hr
  · cases hr
def rL_law_322 : List (Nat × XRow) := [(322, (.aload_n 1, 323, 1, .null, [])),
  (323, (.invokevirtual 23, 326, 23, .null, [])),
  (326, (.aload_n 2, 327, 2, .null, [])),
  (327, (.invokevirtual 27, 330, 27, .null, [])),
  (330, (.if_icmp .eq 1391, 333, 1721, .null, [])),
  (333, (.iconst 0, 334, 0, .int (0 : Int32), [])),
  (334, (.ireturn, 335, 0, .null, []))]
def mL_law_322 : List (Nat × XM) := [(23, (1, 1, some 8, FD_load)), (27, (1, 1, some 9, FM_load))]
abbrev BL_law_322 : XB := (rL_law_322, [], mL_law_322, 6, [])
set_option maxRecDepth 100000 in
theorem kL_law_322 : XOK BL_law_322 code 8 RL 11 416 := xok_of (cps := []) (K := []) (by decide +kernel) (fun _ h => absurd h List.not_mem_nil) (fun _ h => absurd h List.not_mem_nil) (fun _ _ _ _ h => by cases h) (List.forall_mem_cons.mpr ⟨⟨_, _, _, _, _, _, _, SD_load, rfl, rfl, Nat.le_of_ble_eq_true rfl, Nat.le_of_ble_eq_true rfl, cdD_load, lkL_23, imD_load, slD_load, inD_load, pmD_load⟩, List.forall_mem_cons.mpr ⟨⟨_, _, _, _, _, _, _, SM_load, rfl, rfl, Nat.le_of_ble_eq_true rfl, Nat.le_of_ble_eq_true rfl, cdM_load, lkL_27, imM_load, slM_load, inM_load, pmM_load⟩, fun _ h => absurd h List.not_mem_nil⟩⟩) (fun _ _ _ h => by cases h)
set_option maxRecDepth 100000 in
theorem eL_law_322 (k18 : Nat → Nat → Nat → Int32 → XH → XR) (a0 : Nat) (a1 : Nat) (a2 : Nat) (x3 : Int32) (h : XH) : qL_law_322 k18 a0 a1 a2 x3 h = xrun BL_law_322 (xfind [(1721, ([0, 1, 2, 3], wL_law_1721 (qL_law_1721 k18)))]) 10 322 (List.zip [0, 1, 2, 3] [.ref a0, .ref a1, .ref a2, .int x3]) [] h := rfl
theorem tL_law_322 {k18 : Nat → Nat → Nat → Int32 → XH → XR} (hk18 : XToR room_1 600000 7302250 code 8 RL 6 18 [0, 1, 2, 3] (wL_law_18 k18)) : XToR room_1 600000 7302250 code 8 RL 6 322 [0, 1, 2, 3] (wL_law_322 (qL_law_322 k18)) := by
  refine XToR.run (B := BL_law_322) (cut := xfind [(1721, ([0, 1, 2, 3], wL_law_1721 (qL_law_1721 k18)))]) ⟨Nat.le_of_ble_eq_true rfl, Nat.le_of_ble_eq_true rfl⟩ kL_law_322 (xcutsR_ok (List.forall_mem_cons.mpr ⟨tL_law_1721 hk18, fun _ h => absurd h List.not_mem_nil⟩)) 10 (fun vs st h r hr => ?_)
  unfold wL_law_322 at hr
  split at hr
  · exact (eL_law_322 k18 _ _ _ _ _).symm.trans hr
  · cases hr
def rL_law_335 : List (Nat × XRow) := [(335, (.aload_n 1, 336, 1, .null, [])),
  (336, (.invokevirtual 28, 339, 28, .null, [])),
  (339, (.aload_n 2, 340, 2, .null, [])),
  (340, (.invokevirtual 31, 343, 31, .null, [])),
  (343, (.if_icmp .eq 1378, 346, 1721, .null, [])),
  (346, (.iconst 0, 347, 0, .int (0 : Int32), [])),
  (347, (.ireturn, 348, 0, .null, []))]
def mL_law_335 : List (Nat × XM) := [(28, (1, 1, some 8, FD_errorPosition)), (31, (1, 1, some 9, FM_errorPosition))]
abbrev BL_law_335 : XB := (rL_law_335, [], mL_law_335, 6, [])
set_option maxRecDepth 100000 in
theorem kL_law_335 : XOK BL_law_335 code 8 RL 11 416 := xok_of (cps := []) (K := []) (by decide +kernel) (fun _ h => absurd h List.not_mem_nil) (fun _ h => absurd h List.not_mem_nil) (fun _ _ _ _ h => by cases h) (List.forall_mem_cons.mpr ⟨⟨_, _, _, _, _, _, _, SD_errorPosition, rfl, rfl, Nat.le_of_ble_eq_true rfl, Nat.le_of_ble_eq_true rfl, cdD_errorPosition, lkL_28, imD_errorPosition, slD_errorPosition, inD_errorPosition, pmD_errorPosition⟩, List.forall_mem_cons.mpr ⟨⟨_, _, _, _, _, _, _, SM_errorPosition, rfl, rfl, Nat.le_of_ble_eq_true rfl, Nat.le_of_ble_eq_true rfl, cdM_errorPosition, lkL_31, imM_errorPosition, slM_errorPosition, inM_errorPosition, pmM_errorPosition⟩, fun _ h => absurd h List.not_mem_nil⟩⟩) (fun _ _ _ h => by cases h)
set_option maxRecDepth 100000 in
theorem eL_law_335 (k18 : Nat → Nat → Nat → Int32 → XH → XR) (a0 : Nat) (a1 : Nat) (a2 : Nat) (x3 : Int32) (h : XH) : qL_law_335 k18 a0 a1 a2 x3 h = xrun BL_law_335 (xfind [(1721, ([0, 1, 2, 3], wL_law_1721 (qL_law_1721 k18)))]) 10 335 (List.zip [0, 1, 2, 3] [.ref a0, .ref a1, .ref a2, .int x3]) [] h := rfl
theorem tL_law_335 {k18 : Nat → Nat → Nat → Int32 → XH → XR} (hk18 : XToR room_1 600000 7302250 code 8 RL 6 18 [0, 1, 2, 3] (wL_law_18 k18)) : XToR room_1 600000 7302250 code 8 RL 6 335 [0, 1, 2, 3] (wL_law_335 (qL_law_335 k18)) := by
  refine XToR.run (B := BL_law_335) (cut := xfind [(1721, ([0, 1, 2, 3], wL_law_1721 (qL_law_1721 k18)))]) ⟨Nat.le_of_ble_eq_true rfl, Nat.le_of_ble_eq_true rfl⟩ kL_law_335 (xcutsR_ok (List.forall_mem_cons.mpr ⟨tL_law_1721 hk18, fun _ h => absurd h List.not_mem_nil⟩)) 10 (fun vs st h r hr => ?_)
  unfold wL_law_335 at hr
  split at hr
  · exact (eL_law_335 k18 _ _ _ _ _).symm.trans hr
  · cases hr
def rL_law_348 : List (Nat × XRow) := [(348, (.aload_n 1, 349, 1, .null, [])),
  (349, (.aload_n 0, 350, 0, .null, [])),
  (350, (.iload_n 3, 351, 3, .null, [])),
  (351, (.iconst 1, 352, 0, .int (1 : Int32), [])),
  (352, (.iadd, 353, 0, .null, [])),
  (353, (.iaload, 354, 0, .null, [])),
  (354, (.aload_n 0, 355, 0, .null, [])),
  (355, (.iload_n 3, 356, 3, .null, [])),
  (356, (.iconst 2, 357, 0, .int (2 : Int32), [])),
  (357, (.iadd, 358, 0, .null, [])),
  (358, (.iaload, 359, 0, .null, [])),
  (359, (.aload_n 0, 360, 0, .null, [])),
  (360, (.iload_n 3, 361, 3, .null, [])),
  (361, (.iconst 3, 362, 0, .int (3 : Int32), [])),
  (362, (.iadd, 363, 0, .null, [])),
  (363, (.iaload, 364, 0, .null, [])),
  (364, (.aload_n 0, 365, 0, .null, [])),
  (365, (.iload_n 3, 366, 3, .null, [])),
  (366, (.iconst 4, 367, 0, .int (4 : Int32), [])),
  (367, (.iadd, 368, 0, .null, [])),
  (368, (.iaload, 369, 0, .null, [])),
  (369, (.invokevirtual 32, 372, 32, .null, [])),
  (372, (.aload_n 2, 373, 2, .null, [])),
  (373, (.aload_n 0, 374, 0, .null, [])),
  (374, (.iload_n 3, 375, 3, .null, [])),
  (375, (.iconst 1, 376, 0, .int (1 : Int32), [])),
  (376, (.iadd, 377, 0, .null, [])),
  (377, (.iaload, 378, 0, .null, [])),
  (378, (.aload_n 0, 379, 0, .null, [])),
  (379, (.iload_n 3, 380, 3, .null, [])),
  (380, (.iconst 2, 381, 0, .int (2 : Int32), [])),
  (381, (.iadd, 382, 0, .null, [])),
  (382, (.iaload, 383, 0, .null, [])),
  (383, (.aload_n 0, 384, 0, .null, [])),
  (384, (.iload_n 3, 385, 3, .null, [])),
  (385, (.iconst 3, 386, 0, .int (3 : Int32), [])),
  (386, (.iadd, 387, 0, .null, [])),
  (387, (.iaload, 388, 0, .null, [])),
  (388, (.aload_n 0, 389, 0, .null, [])),
  (389, (.iload_n 3, 390, 3, .null, [])),
  (390, (.iconst 4, 391, 0, .int (4 : Int32), [])),
  (391, (.iadd, 392, 0, .null, [])),
  (392, (.iaload, 393, 0, .null, [])),
  (393, (.invokevirtual 36, 396, 36, .null, [])),
  (396, (.if_icmp .eq 1325, 399, 1721, .null, [])),
  (399, (.iconst 0, 400, 0, .int (0 : Int32), [])),
  (400, (.ireturn, 401, 0, .null, []))]
def mL_law_348 : List (Nat × XM) := [(32, (5, 1, some 8, FD_moveBend)), (36, (5, 1, some 9, FM_moveBend))]
abbrev BL_law_348 : XB := (rL_law_348, [], mL_law_348, 6, [])
set_option maxRecDepth 100000 in
theorem kL_law_348 : XOK BL_law_348 code 8 RL 11 416 := xok_of (cps := []) (K := []) (by decide +kernel) (fun _ h => absurd h List.not_mem_nil) (fun _ h => absurd h List.not_mem_nil) (fun _ _ _ _ h => by cases h) (List.forall_mem_cons.mpr ⟨⟨_, _, _, _, _, _, _, SD_moveBend, rfl, rfl, Nat.le_of_ble_eq_true rfl, Nat.le_of_ble_eq_true rfl, cdD_moveBend, lkL_32, imD_moveBend, slD_moveBend, inD_moveBend, pmD_moveBend⟩, List.forall_mem_cons.mpr ⟨⟨_, _, _, _, _, _, _, SM_moveBend, rfl, rfl, Nat.le_of_ble_eq_true rfl, Nat.le_of_ble_eq_true rfl, cdM_moveBend, lkL_36, imM_moveBend, slM_moveBend, inM_moveBend, pmM_moveBend⟩, fun _ h => absurd h List.not_mem_nil⟩⟩) (fun _ _ _ h => by cases h)
set_option maxRecDepth 100000 in
theorem eL_law_348 (k18 : Nat → Nat → Nat → Int32 → XH → XR) (a0 : Nat) (a1 : Nat) (a2 : Nat) (x3 : Int32) (h : XH) : qL_law_348 k18 a0 a1 a2 x3 h = xrun BL_law_348 (xfind [(1721, ([0, 1, 2, 3], wL_law_1721 (qL_law_1721 k18)))]) 50 348 (List.zip [0, 1, 2, 3] [.ref a0, .ref a1, .ref a2, .int x3]) [] h := rfl
theorem tL_law_348 {k18 : Nat → Nat → Nat → Int32 → XH → XR} (hk18 : XToR room_1 600000 7302250 code 8 RL 6 18 [0, 1, 2, 3] (wL_law_18 k18)) : XToR room_1 600000 7302250 code 8 RL 6 348 [0, 1, 2, 3] (wL_law_348 (qL_law_348 k18)) := by
  refine XToR.run (B := BL_law_348) (cut := xfind [(1721, ([0, 1, 2, 3], wL_law_1721 (qL_law_1721 k18)))]) ⟨Nat.le_of_ble_eq_true rfl, Nat.le_of_ble_eq_true rfl⟩ kL_law_348 (xcutsR_ok (List.forall_mem_cons.mpr ⟨tL_law_1721 hk18, fun _ h => absurd h List.not_mem_nil⟩)) 50 (fun vs st h r hr => ?_)
  unfold wL_law_348 at hr
  split at hr
  · exact (eL_law_348 k18 _ _ _ _ _).symm.trans hr
  · cases hr
def rL_law_401 : List (Nat × XRow) := [(401, (.aload_n 1, 402, 1, .null, [])),
  (402, (.aload_n 0, 403, 0, .null, [])),
  (403, (.iload_n 3, 404, 3, .null, [])),
  (404, (.iconst 1, 405, 0, .int (1 : Int32), [])),
  (405, (.iadd, 406, 0, .null, [])),
  (406, (.iaload, 407, 0, .null, [])),
  (407, (.aload_n 0, 408, 0, .null, [])),
  (408, (.iload_n 3, 409, 3, .null, [])),
  (409, (.iconst 2, 410, 0, .int (2 : Int32), [])),
  (410, (.iadd, 411, 0, .null, [])),
  (411, (.iaload, 412, 0, .null, [])),
  (412, (.aload_n 0, 413, 0, .null, [])),
  (413, (.iload_n 3, 414, 3, .null, [])),
  (414, (.iconst 3, 415, 0, .int (3 : Int32), [])),
  (415, (.iadd, 416, 0, .null, [])),
  (416, (.iaload, 417, 0, .null, [])),
  (417, (.aload_n 0, 418, 0, .null, [])),
  (418, (.iload_n 3, 419, 3, .null, [])),
  (419, (.iconst 4, 420, 0, .int (4 : Int32), [])),
  (420, (.iadd, 421, 0, .null, [])),
  (421, (.iaload, 422, 0, .null, [])),
  (422, (.invokevirtual 37, 425, 37, .null, [])),
  (425, (.aload_n 2, 426, 2, .null, [])),
  (426, (.aload_n 0, 427, 0, .null, [])),
  (427, (.iload_n 3, 428, 3, .null, [])),
  (428, (.iconst 1, 429, 0, .int (1 : Int32), [])),
  (429, (.iadd, 430, 0, .null, [])),
  (430, (.iaload, 431, 0, .null, [])),
  (431, (.aload_n 0, 432, 0, .null, [])),
  (432, (.iload_n 3, 433, 3, .null, [])),
  (433, (.iconst 2, 434, 0, .int (2 : Int32), [])),
  (434, (.iadd, 435, 0, .null, [])),
  (435, (.iaload, 436, 0, .null, [])),
  (436, (.aload_n 0, 437, 0, .null, [])),
  (437, (.iload_n 3, 438, 3, .null, [])),
  (438, (.iconst 3, 439, 0, .int (3 : Int32), [])),
  (439, (.iadd, 440, 0, .null, [])),
  (440, (.iaload, 441, 0, .null, [])),
  (441, (.aload_n 0, 442, 0, .null, [])),
  (442, (.iload_n 3, 443, 3, .null, [])),
  (443, (.iconst 4, 444, 0, .int (4 : Int32), [])),
  (444, (.iadd, 445, 0, .null, [])),
  (445, (.iaload, 446, 0, .null, [])),
  (446, (.invokevirtual 40, 449, 40, .null, [])),
  (449, (.if_icmp .eq 1272, 452, 1721, .null, [])),
  (452, (.iconst 0, 453, 0, .int (0 : Int32), [])),
  (453, (.ireturn, 454, 0, .null, []))]
def mL_law_401 : List (Nat × XM) := [(37, (5, 1, some 8, FD_insert)), (40, (5, 1, some 9, FM_insert))]
abbrev BL_law_401 : XB := (rL_law_401, [], mL_law_401, 6, [])
set_option maxRecDepth 100000 in
theorem kL_law_401 : XOK BL_law_401 code 8 RL 11 416 := xok_of (cps := []) (K := []) (by decide +kernel) (fun _ h => absurd h List.not_mem_nil) (fun _ h => absurd h List.not_mem_nil) (fun _ _ _ _ h => by cases h) (List.forall_mem_cons.mpr ⟨⟨_, _, _, _, _, _, _, SD_insert, rfl, rfl, Nat.le_of_ble_eq_true rfl, Nat.le_of_ble_eq_true rfl, cdD_insert, lkL_37, imD_insert, slD_insert, inD_insert, pmD_insert⟩, List.forall_mem_cons.mpr ⟨⟨_, _, _, _, _, _, _, SM_insert, rfl, rfl, Nat.le_of_ble_eq_true rfl, Nat.le_of_ble_eq_true rfl, cdM_insert, lkL_40, imM_insert, slM_insert, inM_insert, pmM_insert⟩, fun _ h => absurd h List.not_mem_nil⟩⟩) (fun _ _ _ h => by cases h)
set_option maxRecDepth 100000 in
theorem eL_law_401 (k18 : Nat → Nat → Nat → Int32 → XH → XR) (a0 : Nat) (a1 : Nat) (a2 : Nat) (x3 : Int32) (h : XH) : qL_law_401 k18 a0 a1 a2 x3 h = xrun BL_law_401 (xfind [(1721, ([0, 1, 2, 3], wL_law_1721 (qL_law_1721 k18)))]) 50 401 (List.zip [0, 1, 2, 3] [.ref a0, .ref a1, .ref a2, .int x3]) [] h := rfl
theorem tL_law_401 {k18 : Nat → Nat → Nat → Int32 → XH → XR} (hk18 : XToR room_1 600000 7302250 code 8 RL 6 18 [0, 1, 2, 3] (wL_law_18 k18)) : XToR room_1 600000 7302250 code 8 RL 6 401 [0, 1, 2, 3] (wL_law_401 (qL_law_401 k18)) := by
  refine XToR.run (B := BL_law_401) (cut := xfind [(1721, ([0, 1, 2, 3], wL_law_1721 (qL_law_1721 k18)))]) ⟨Nat.le_of_ble_eq_true rfl, Nat.le_of_ble_eq_true rfl⟩ kL_law_401 (xcutsR_ok (List.forall_mem_cons.mpr ⟨tL_law_1721 hk18, fun _ h => absurd h List.not_mem_nil⟩)) 50 (fun vs st h r hr => ?_)
  unfold wL_law_401 at hr
  split at hr
  · exact (eL_law_401 k18 _ _ _ _ _).symm.trans hr
  · cases hr
def rL_law_454 : List (Nat × XRow) := [(454, (.aload_n 1, 455, 1, .null, [])),
  (455, (.aload_n 0, 456, 0, .null, [])),
  (456, (.iload_n 3, 457, 3, .null, [])),
  (457, (.iconst 1, 458, 0, .int (1 : Int32), [])),
  (458, (.iadd, 459, 0, .null, [])),
  (459, (.iaload, 460, 0, .null, [])),
  (460, (.aload_n 0, 461, 0, .null, [])),
  (461, (.iload_n 3, 462, 3, .null, [])),
  (462, (.iconst 2, 463, 0, .int (2 : Int32), [])),
  (463, (.iadd, 464, 0, .null, [])),
  (464, (.iaload, 465, 0, .null, [])),
  (465, (.invokevirtual 41, 468, 41, .null, [])),
  (468, (.aload_n 2, 469, 2, .null, [])),
  (469, (.aload_n 0, 470, 0, .null, [])),
  (470, (.iload_n 3, 471, 3, .null, [])),
  (471, (.iconst 1, 472, 0, .int (1 : Int32), [])),
  (472, (.iadd, 473, 0, .null, [])),
  (473, (.iaload, 474, 0, .null, [])),
  (474, (.aload_n 0, 475, 0, .null, [])),
  (475, (.iload_n 3, 476, 3, .null, [])),
  (476, (.iconst 2, 477, 0, .int (2 : Int32), [])),
  (477, (.iadd, 478, 0, .null, [])),
  (478, (.iaload, 479, 0, .null, [])),
  (479, (.invokevirtual 45, 482, 45, .null, [])),
  (482, (.if_icmp .eq 1239, 485, 1721, .null, [])),
  (485, (.iconst 0, 486, 0, .int (0 : Int32), [])),
  (486, (.ireturn, 487, 0, .null, []))]
def mL_law_454 : List (Nat × XM) := [(41, (3, 1, some 8, FD_removePoint)), (45, (3, 1, some 9, FM_removePoint))]
abbrev BL_law_454 : XB := (rL_law_454, [], mL_law_454, 6, [])
set_option maxRecDepth 100000 in
theorem kL_law_454 : XOK BL_law_454 code 8 RL 11 416 := xok_of (cps := []) (K := []) (by decide +kernel) (fun _ h => absurd h List.not_mem_nil) (fun _ h => absurd h List.not_mem_nil) (fun _ _ _ _ h => by cases h) (List.forall_mem_cons.mpr ⟨⟨_, _, _, _, _, _, _, SD_removePoint, rfl, rfl, Nat.le_of_ble_eq_true rfl, Nat.le_of_ble_eq_true rfl, cdD_removePoint, lkL_41, imD_removePoint, slD_removePoint, inD_removePoint, pmD_removePoint⟩, List.forall_mem_cons.mpr ⟨⟨_, _, _, _, _, _, _, SM_removePoint, rfl, rfl, Nat.le_of_ble_eq_true rfl, Nat.le_of_ble_eq_true rfl, cdM_removePoint, lkL_45, imM_removePoint, slM_removePoint, inM_removePoint, pmM_removePoint⟩, fun _ h => absurd h List.not_mem_nil⟩⟩) (fun _ _ _ h => by cases h)
set_option maxRecDepth 100000 in
theorem eL_law_454 (k18 : Nat → Nat → Nat → Int32 → XH → XR) (a0 : Nat) (a1 : Nat) (a2 : Nat) (x3 : Int32) (h : XH) : qL_law_454 k18 a0 a1 a2 x3 h = xrun BL_law_454 (xfind [(1721, ([0, 1, 2, 3], wL_law_1721 (qL_law_1721 k18)))]) 30 454 (List.zip [0, 1, 2, 3] [.ref a0, .ref a1, .ref a2, .int x3]) [] h := rfl
theorem tL_law_454 {k18 : Nat → Nat → Nat → Int32 → XH → XR} (hk18 : XToR room_1 600000 7302250 code 8 RL 6 18 [0, 1, 2, 3] (wL_law_18 k18)) : XToR room_1 600000 7302250 code 8 RL 6 454 [0, 1, 2, 3] (wL_law_454 (qL_law_454 k18)) := by
  refine XToR.run (B := BL_law_454) (cut := xfind [(1721, ([0, 1, 2, 3], wL_law_1721 (qL_law_1721 k18)))]) ⟨Nat.le_of_ble_eq_true rfl, Nat.le_of_ble_eq_true rfl⟩ kL_law_454 (xcutsR_ok (List.forall_mem_cons.mpr ⟨tL_law_1721 hk18, fun _ h => absurd h List.not_mem_nil⟩)) 30 (fun vs st h r hr => ?_)
  unfold wL_law_454 at hr
  split at hr
  · exact (eL_law_454 k18 _ _ _ _ _).symm.trans hr
  · cases hr
def rL_law_487 : List (Nat × XRow) := [(487, (.aload_n 1, 488, 1, .null, [])),
  (488, (.aload_n 0, 489, 0, .null, [])),
  (489, (.iload_n 3, 490, 3, .null, [])),
  (490, (.iconst 1, 491, 0, .int (1 : Int32), [])),
  (491, (.iadd, 492, 0, .null, [])),
  (492, (.iaload, 493, 0, .null, [])),
  (493, (.invokevirtual 46, 496, 46, .null, [])),
  (496, (.aload_n 2, 497, 2, .null, [])),
  (497, (.aload_n 0, 498, 0, .null, [])),
  (498, (.iload_n 3, 499, 3, .null, [])),
  (499, (.iconst 1, 500, 0, .int (1 : Int32), [])),
  (500, (.iadd, 501, 0, .null, [])),
  (501, (.iaload, 502, 0, .null, [])),
  (502, (.invokevirtual 49, 505, 49, .null, [])),
  (505, (.if_icmp .eq 1216, 508, 1721, .null, [])),
  (508, (.iconst 0, 509, 0, .int (0 : Int32), [])),
  (509, (.ireturn, 510, 0, .null, []))]
def mL_law_487 : List (Nat × XM) := [(46, (2, 1, some 8, FD_reverse)), (49, (2, 1, some 9, FM_reverse))]
abbrev BL_law_487 : XB := (rL_law_487, [], mL_law_487, 6, [])
set_option maxRecDepth 100000 in
theorem kL_law_487 : XOK BL_law_487 code 8 RL 11 416 := xok_of (cps := []) (K := []) (by decide +kernel) (fun _ h => absurd h List.not_mem_nil) (fun _ h => absurd h List.not_mem_nil) (fun _ _ _ _ h => by cases h) (List.forall_mem_cons.mpr ⟨⟨_, _, _, _, _, _, _, SD_reverse, rfl, rfl, Nat.le_of_ble_eq_true rfl, Nat.le_of_ble_eq_true rfl, cdD_reverse, lkL_46, imD_reverse, slD_reverse, inD_reverse, pmD_reverse⟩, List.forall_mem_cons.mpr ⟨⟨_, _, _, _, _, _, _, SM_reverse, rfl, rfl, Nat.le_of_ble_eq_true rfl, Nat.le_of_ble_eq_true rfl, cdM_reverse, lkL_49, imM_reverse, slM_reverse, inM_reverse, pmM_reverse⟩, fun _ h => absurd h List.not_mem_nil⟩⟩) (fun _ _ _ h => by cases h)
set_option maxRecDepth 100000 in
theorem eL_law_487 (k18 : Nat → Nat → Nat → Int32 → XH → XR) (a0 : Nat) (a1 : Nat) (a2 : Nat) (x3 : Int32) (h : XH) : qL_law_487 k18 a0 a1 a2 x3 h = xrun BL_law_487 (xfind [(1721, ([0, 1, 2, 3], wL_law_1721 (qL_law_1721 k18)))]) 20 487 (List.zip [0, 1, 2, 3] [.ref a0, .ref a1, .ref a2, .int x3]) [] h := rfl
theorem tL_law_487 {k18 : Nat → Nat → Nat → Int32 → XH → XR} (hk18 : XToR room_1 600000 7302250 code 8 RL 6 18 [0, 1, 2, 3] (wL_law_18 k18)) : XToR room_1 600000 7302250 code 8 RL 6 487 [0, 1, 2, 3] (wL_law_487 (qL_law_487 k18)) := by
  refine XToR.run (B := BL_law_487) (cut := xfind [(1721, ([0, 1, 2, 3], wL_law_1721 (qL_law_1721 k18)))]) ⟨Nat.le_of_ble_eq_true rfl, Nat.le_of_ble_eq_true rfl⟩ kL_law_487 (xcutsR_ok (List.forall_mem_cons.mpr ⟨tL_law_1721 hk18, fun _ h => absurd h List.not_mem_nil⟩)) 20 (fun vs st h r hr => ?_)
  unfold wL_law_487 at hr
  split at hr
  · exact (eL_law_487 k18 _ _ _ _ _).symm.trans hr
  · cases hr
def rL_law_510 : List (Nat × XRow) := [(510, (.aload_n 1, 511, 1, .null, [])),
  (511, (.aload_n 0, 512, 0, .null, [])),
  (512, (.iload_n 3, 513, 3, .null, [])),
  (513, (.iconst 1, 514, 0, .int (1 : Int32), [])),
  (514, (.iadd, 515, 0, .null, [])),
  (515, (.iaload, 516, 0, .null, [])),
  (516, (.aload_n 0, 517, 0, .null, [])),
  (517, (.iload_n 3, 518, 3, .null, [])),
  (518, (.iconst 2, 519, 0, .int (2 : Int32), [])),
  (519, (.iadd, 520, 0, .null, [])),
  (520, (.iaload, 521, 0, .null, [])),
  (521, (.invokevirtual 50, 524, 50, .null, [])),
  (524, (.aload_n 2, 525, 2, .null, [])),
  (525, (.aload_n 0, 526, 0, .null, [])),
  (526, (.iload_n 3, 527, 3, .null, [])),
  (527, (.iconst 1, 528, 0, .int (1 : Int32), [])),
  (528, (.iadd, 529, 0, .null, [])),
  (529, (.iaload, 530, 0, .null, [])),
  (530, (.aload_n 0, 531, 0, .null, [])),
  (531, (.iload_n 3, 532, 3, .null, [])),
  (532, (.iconst 2, 533, 0, .int (2 : Int32), [])),
  (533, (.iadd, 534, 0, .null, [])),
  (534, (.iaload, 535, 0, .null, [])),
  (535, (.invokevirtual 53, 538, 53, .null, [])),
  (538, (.if_icmp .eq 1183, 541, 1721, .null, [])),
  (541, (.iconst 0, 542, 0, .int (0 : Int32), [])),
  (542, (.ireturn, 543, 0, .null, []))]
def mL_law_510 : List (Nat × XM) := [(50, (3, 1, some 8, FD_setStops)), (53, (3, 1, some 9, FM_setStops))]
abbrev BL_law_510 : XB := (rL_law_510, [], mL_law_510, 6, [])
set_option maxRecDepth 100000 in
theorem kL_law_510 : XOK BL_law_510 code 8 RL 11 416 := xok_of (cps := []) (K := []) (by decide +kernel) (fun _ h => absurd h List.not_mem_nil) (fun _ h => absurd h List.not_mem_nil) (fun _ _ _ _ h => by cases h) (List.forall_mem_cons.mpr ⟨⟨_, _, _, _, _, _, _, SD_setStops, rfl, rfl, Nat.le_of_ble_eq_true rfl, Nat.le_of_ble_eq_true rfl, cdD_setStops, lkL_50, imD_setStops, slD_setStops, inD_setStops, pmD_setStops⟩, List.forall_mem_cons.mpr ⟨⟨_, _, _, _, _, _, _, SM_setStops, rfl, rfl, Nat.le_of_ble_eq_true rfl, Nat.le_of_ble_eq_true rfl, cdM_setStops, lkL_53, imM_setStops, slM_setStops, inM_setStops, pmM_setStops⟩, fun _ h => absurd h List.not_mem_nil⟩⟩) (fun _ _ _ h => by cases h)
set_option maxRecDepth 100000 in
theorem eL_law_510 (k18 : Nat → Nat → Nat → Int32 → XH → XR) (a0 : Nat) (a1 : Nat) (a2 : Nat) (x3 : Int32) (h : XH) : qL_law_510 k18 a0 a1 a2 x3 h = xrun BL_law_510 (xfind [(1721, ([0, 1, 2, 3], wL_law_1721 (qL_law_1721 k18)))]) 30 510 (List.zip [0, 1, 2, 3] [.ref a0, .ref a1, .ref a2, .int x3]) [] h := rfl
theorem tL_law_510 {k18 : Nat → Nat → Nat → Int32 → XH → XR} (hk18 : XToR room_1 600000 7302250 code 8 RL 6 18 [0, 1, 2, 3] (wL_law_18 k18)) : XToR room_1 600000 7302250 code 8 RL 6 510 [0, 1, 2, 3] (wL_law_510 (qL_law_510 k18)) := by
  refine XToR.run (B := BL_law_510) (cut := xfind [(1721, ([0, 1, 2, 3], wL_law_1721 (qL_law_1721 k18)))]) ⟨Nat.le_of_ble_eq_true rfl, Nat.le_of_ble_eq_true rfl⟩ kL_law_510 (xcutsR_ok (List.forall_mem_cons.mpr ⟨tL_law_1721 hk18, fun _ h => absurd h List.not_mem_nil⟩)) 30 (fun vs st h r hr => ?_)
  unfold wL_law_510 at hr
  split at hr
  · exact (eL_law_510 k18 _ _ _ _ _).symm.trans hr
  · cases hr
def rL_law_543 : List (Nat × XRow) := [(543, (.aload_n 1, 544, 1, .null, [])),
  (544, (.aload_n 0, 545, 0, .null, [])),
  (545, (.iload_n 3, 546, 3, .null, [])),
  (546, (.iconst 1, 547, 0, .int (1 : Int32), [])),
  (547, (.iadd, 548, 0, .null, [])),
  (548, (.iaload, 549, 0, .null, [])),
  (549, (.aload_n 0, 550, 0, .null, [])),
  (550, (.iload_n 3, 551, 3, .null, [])),
  (551, (.iconst 2, 552, 0, .int (2 : Int32), [])),
  (552, (.iadd, 553, 0, .null, [])),
  (553, (.iaload, 554, 0, .null, [])),
  (554, (.invokevirtual 54, 557, 54, .null, [])),
  (557, (.aload_n 2, 558, 2, .null, [])),
  (558, (.aload_n 0, 559, 0, .null, [])),
  (559, (.iload_n 3, 560, 3, .null, [])),
  (560, (.iconst 1, 561, 0, .int (1 : Int32), [])),
  (561, (.iadd, 562, 0, .null, [])),
  (562, (.iaload, 563, 0, .null, [])),
  (563, (.aload_n 0, 564, 0, .null, [])),
  (564, (.iload_n 3, 565, 3, .null, [])),
  (565, (.iconst 2, 566, 0, .int (2 : Int32), [])),
  (566, (.iadd, 567, 0, .null, [])),
  (567, (.iaload, 568, 0, .null, [])),
  (568, (.invokevirtual 57, 571, 57, .null, [])),
  (571, (.if_icmp .eq 1150, 574, 1721, .null, [])),
  (574, (.iconst 0, 575, 0, .int (0 : Int32), [])),
  (575, (.ireturn, 576, 0, .null, []))]
def mL_law_543 : List (Nat × XM) := [(54, (3, 1, some 8, FD_setSize)), (57, (3, 1, some 9, FM_setSize))]
abbrev BL_law_543 : XB := (rL_law_543, [], mL_law_543, 6, [])
set_option maxRecDepth 100000 in
theorem kL_law_543 : XOK BL_law_543 code 8 RL 11 416 := xok_of (cps := []) (K := []) (by decide +kernel) (fun _ h => absurd h List.not_mem_nil) (fun _ h => absurd h List.not_mem_nil) (fun _ _ _ _ h => by cases h) (List.forall_mem_cons.mpr ⟨⟨_, _, _, _, _, _, _, SD_setSize, rfl, rfl, Nat.le_of_ble_eq_true rfl, Nat.le_of_ble_eq_true rfl, cdD_setSize, lkL_54, imD_setSize, slD_setSize, inD_setSize, pmD_setSize⟩, List.forall_mem_cons.mpr ⟨⟨_, _, _, _, _, _, _, SM_setSize, rfl, rfl, Nat.le_of_ble_eq_true rfl, Nat.le_of_ble_eq_true rfl, cdM_setSize, lkL_57, imM_setSize, slM_setSize, inM_setSize, pmM_setSize⟩, fun _ h => absurd h List.not_mem_nil⟩⟩) (fun _ _ _ h => by cases h)
set_option maxRecDepth 100000 in
theorem eL_law_543 (k18 : Nat → Nat → Nat → Int32 → XH → XR) (a0 : Nat) (a1 : Nat) (a2 : Nat) (x3 : Int32) (h : XH) : qL_law_543 k18 a0 a1 a2 x3 h = xrun BL_law_543 (xfind [(1721, ([0, 1, 2, 3], wL_law_1721 (qL_law_1721 k18)))]) 30 543 (List.zip [0, 1, 2, 3] [.ref a0, .ref a1, .ref a2, .int x3]) [] h := rfl
theorem tL_law_543 {k18 : Nat → Nat → Nat → Int32 → XH → XR} (hk18 : XToR room_1 600000 7302250 code 8 RL 6 18 [0, 1, 2, 3] (wL_law_18 k18)) : XToR room_1 600000 7302250 code 8 RL 6 543 [0, 1, 2, 3] (wL_law_543 (qL_law_543 k18)) := by
  refine XToR.run (B := BL_law_543) (cut := xfind [(1721, ([0, 1, 2, 3], wL_law_1721 (qL_law_1721 k18)))]) ⟨Nat.le_of_ble_eq_true rfl, Nat.le_of_ble_eq_true rfl⟩ kL_law_543 (xcutsR_ok (List.forall_mem_cons.mpr ⟨tL_law_1721 hk18, fun _ h => absurd h List.not_mem_nil⟩)) 30 (fun vs st h r hr => ?_)
  unfold wL_law_543 at hr
  split at hr
  · exact (eL_law_543 k18 _ _ _ _ _).symm.trans hr
  · cases hr
def rL_law_576 : List (Nat × XRow) := [(576, (.aload_n 1, 577, 1, .null, [])),
  (577, (.aload_n 0, 578, 0, .null, [])),
  (578, (.iload_n 3, 579, 3, .null, [])),
  (579, (.iconst 1, 580, 0, .int (1 : Int32), [])),
  (580, (.iadd, 581, 0, .null, [])),
  (581, (.iaload, 582, 0, .null, [])),
  (582, (.aload_n 0, 583, 0, .null, [])),
  (583, (.iload_n 3, 584, 3, .null, [])),
  (584, (.iconst 2, 585, 0, .int (2 : Int32), [])),
  (585, (.iadd, 586, 0, .null, [])),
  (586, (.iaload, 587, 0, .null, [])),
  (587, (.aload_n 0, 588, 0, .null, [])),
  (588, (.iload_n 3, 589, 3, .null, [])),
  (589, (.iconst 3, 590, 0, .int (3 : Int32), [])),
  (590, (.iadd, 591, 0, .null, [])),
  (591, (.iaload, 592, 0, .null, [])),
  (592, (.invokevirtual 58, 595, 58, .null, [])),
  (595, (.aload_n 2, 596, 2, .null, [])),
  (596, (.aload_n 0, 597, 0, .null, [])),
  (597, (.iload_n 3, 598, 3, .null, [])),
  (598, (.iconst 1, 599, 0, .int (1 : Int32), [])),
  (599, (.iadd, 600, 0, .null, [])),
  (600, (.iaload, 601, 0, .null, [])),
  (601, (.aload_n 0, 602, 0, .null, [])),
  (602, (.iload_n 3, 603, 3, .null, [])),
  (603, (.iconst 2, 604, 0, .int (2 : Int32), [])),
  (604, (.iadd, 605, 0, .null, [])),
  (605, (.iaload, 606, 0, .null, [])),
  (606, (.aload_n 0, 607, 0, .null, [])),
  (607, (.iload_n 3, 608, 3, .null, [])),
  (608, (.iconst 3, 609, 0, .int (3 : Int32), [])),
  (609, (.iadd, 610, 0, .null, [])),
  (610, (.iaload, 611, 0, .null, [])),
  (611, (.invokevirtual 62, 614, 62, .null, [])),
  (614, (.if_icmp .eq 1107, 617, 1721, .null, [])),
  (617, (.iconst 0, 618, 0, .int (0 : Int32), [])),
  (618, (.ireturn, 619, 0, .null, []))]
def mL_law_576 : List (Nat × XM) := [(58, (4, 1, some 8, FD_label)), (62, (4, 1, some 9, FM_label))]
abbrev BL_law_576 : XB := (rL_law_576, [], mL_law_576, 6, [])
set_option maxRecDepth 100000 in
theorem kL_law_576 : XOK BL_law_576 code 8 RL 11 416 := xok_of (cps := []) (K := []) (by decide +kernel) (fun _ h => absurd h List.not_mem_nil) (fun _ h => absurd h List.not_mem_nil) (fun _ _ _ _ h => by cases h) (List.forall_mem_cons.mpr ⟨⟨_, _, _, _, _, _, _, SD_label, rfl, rfl, Nat.le_of_ble_eq_true rfl, Nat.le_of_ble_eq_true rfl, cdD_label, lkL_58, imD_label, slD_label, inD_label, pmD_label⟩, List.forall_mem_cons.mpr ⟨⟨_, _, _, _, _, _, _, SM_label, rfl, rfl, Nat.le_of_ble_eq_true rfl, Nat.le_of_ble_eq_true rfl, cdM_label, lkL_62, imM_label, slM_label, inM_label, pmM_label⟩, fun _ h => absurd h List.not_mem_nil⟩⟩) (fun _ _ _ h => by cases h)
set_option maxRecDepth 100000 in
theorem eL_law_576 (k18 : Nat → Nat → Nat → Int32 → XH → XR) (a0 : Nat) (a1 : Nat) (a2 : Nat) (x3 : Int32) (h : XH) : qL_law_576 k18 a0 a1 a2 x3 h = xrun BL_law_576 (xfind [(1721, ([0, 1, 2, 3], wL_law_1721 (qL_law_1721 k18)))]) 40 576 (List.zip [0, 1, 2, 3] [.ref a0, .ref a1, .ref a2, .int x3]) [] h := rfl
theorem tL_law_576 {k18 : Nat → Nat → Nat → Int32 → XH → XR} (hk18 : XToR room_1 600000 7302250 code 8 RL 6 18 [0, 1, 2, 3] (wL_law_18 k18)) : XToR room_1 600000 7302250 code 8 RL 6 576 [0, 1, 2, 3] (wL_law_576 (qL_law_576 k18)) := by
  refine XToR.run (B := BL_law_576) (cut := xfind [(1721, ([0, 1, 2, 3], wL_law_1721 (qL_law_1721 k18)))]) ⟨Nat.le_of_ble_eq_true rfl, Nat.le_of_ble_eq_true rfl⟩ kL_law_576 (xcutsR_ok (List.forall_mem_cons.mpr ⟨tL_law_1721 hk18, fun _ h => absurd h List.not_mem_nil⟩)) 40 (fun vs st h r hr => ?_)
  unfold wL_law_576 at hr
  split at hr
  · exact (eL_law_576 k18 _ _ _ _ _).symm.trans hr
  · cases hr
def rL_law_619 : List (Nat × XRow) := [(619, (.aload_n 1, 620, 1, .null, [])),
  (620, (.aload_n 0, 621, 0, .null, [])),
  (621, (.iload_n 3, 622, 3, .null, [])),
  (622, (.iconst 1, 623, 0, .int (1 : Int32), [])),
  (623, (.iadd, 624, 0, .null, [])),
  (624, (.iaload, 625, 0, .null, [])),
  (625, (.aload_n 0, 626, 0, .null, [])),
  (626, (.iload_n 3, 627, 3, .null, [])),
  (627, (.iconst 2, 628, 0, .int (2 : Int32), [])),
  (628, (.iadd, 629, 0, .null, [])),
  (629, (.iaload, 630, 0, .null, [])),
  (630, (.invokevirtual 63, 633, 63, .null, [])),
  (633, (.aload_n 2, 634, 2, .null, [])),
  (634, (.aload_n 0, 635, 0, .null, [])),
  (635, (.iload_n 3, 636, 3, .null, [])),
  (636, (.iconst 1, 637, 0, .int (1 : Int32), [])),
  (637, (.iadd, 638, 0, .null, [])),
  (638, (.iaload, 639, 0, .null, [])),
  (639, (.aload_n 0, 640, 0, .null, [])),
  (640, (.iload_n 3, 641, 3, .null, [])),
  (641, (.iconst 2, 642, 0, .int (2 : Int32), [])),
  (642, (.iadd, 643, 0, .null, [])),
  (643, (.iaload, 644, 0, .null, [])),
  (644, (.invokevirtual 66, 647, 66, .null, [])),
  (647, (.if_icmp .eq 1074, 650, 1721, .null, [])),
  (650, (.iconst 0, 651, 0, .int (0 : Int32), [])),
  (651, (.ireturn, 652, 0, .null, []))]
def mL_law_619 : List (Nat × XM) := [(63, (3, 1, some 8, FD_unlabel)), (66, (3, 1, some 9, FM_unlabel))]
abbrev BL_law_619 : XB := (rL_law_619, [], mL_law_619, 6, [])
set_option maxRecDepth 100000 in
theorem kL_law_619 : XOK BL_law_619 code 8 RL 11 416 := xok_of (cps := []) (K := []) (by decide +kernel) (fun _ h => absurd h List.not_mem_nil) (fun _ h => absurd h List.not_mem_nil) (fun _ _ _ _ h => by cases h) (List.forall_mem_cons.mpr ⟨⟨_, _, _, _, _, _, _, SD_unlabel, rfl, rfl, Nat.le_of_ble_eq_true rfl, Nat.le_of_ble_eq_true rfl, cdD_unlabel, lkL_63, imD_unlabel, slD_unlabel, inD_unlabel, pmD_unlabel⟩, List.forall_mem_cons.mpr ⟨⟨_, _, _, _, _, _, _, SM_unlabel, rfl, rfl, Nat.le_of_ble_eq_true rfl, Nat.le_of_ble_eq_true rfl, cdM_unlabel, lkL_66, imM_unlabel, slM_unlabel, inM_unlabel, pmM_unlabel⟩, fun _ h => absurd h List.not_mem_nil⟩⟩) (fun _ _ _ h => by cases h)
set_option maxRecDepth 100000 in
theorem eL_law_619 (k18 : Nat → Nat → Nat → Int32 → XH → XR) (a0 : Nat) (a1 : Nat) (a2 : Nat) (x3 : Int32) (h : XH) : qL_law_619 k18 a0 a1 a2 x3 h = xrun BL_law_619 (xfind [(1721, ([0, 1, 2, 3], wL_law_1721 (qL_law_1721 k18)))]) 30 619 (List.zip [0, 1, 2, 3] [.ref a0, .ref a1, .ref a2, .int x3]) [] h := rfl
theorem tL_law_619 {k18 : Nat → Nat → Nat → Int32 → XH → XR} (hk18 : XToR room_1 600000 7302250 code 8 RL 6 18 [0, 1, 2, 3] (wL_law_18 k18)) : XToR room_1 600000 7302250 code 8 RL 6 619 [0, 1, 2, 3] (wL_law_619 (qL_law_619 k18)) := by
  refine XToR.run (B := BL_law_619) (cut := xfind [(1721, ([0, 1, 2, 3], wL_law_1721 (qL_law_1721 k18)))]) ⟨Nat.le_of_ble_eq_true rfl, Nat.le_of_ble_eq_true rfl⟩ kL_law_619 (xcutsR_ok (List.forall_mem_cons.mpr ⟨tL_law_1721 hk18, fun _ h => absurd h List.not_mem_nil⟩)) 30 (fun vs st h r hr => ?_)
  unfold wL_law_619 at hr
  split at hr
  · exact (eL_law_619 k18 _ _ _ _ _).symm.trans hr
  · cases hr
def rL_law_652 : List (Nat × XRow) := [(652, (.aload_n 1, 653, 1, .null, [])),
  (653, (.aload_n 0, 654, 0, .null, [])),
  (654, (.iload_n 3, 655, 3, .null, [])),
  (655, (.iconst 1, 656, 0, .int (1 : Int32), [])),
  (656, (.iadd, 657, 0, .null, [])),
  (657, (.iaload, 658, 0, .null, [])),
  (658, (.aload_n 0, 659, 0, .null, [])),
  (659, (.iload_n 3, 660, 3, .null, [])),
  (660, (.iconst 2, 661, 0, .int (2 : Int32), [])),
  (661, (.iadd, 662, 0, .null, [])),
  (662, (.iaload, 663, 0, .null, [])),
  (663, (.invokevirtual 67, 666, 67, .null, [])),
  (666, (.aload_n 2, 667, 2, .null, [])),
  (667, (.aload_n 0, 668, 0, .null, [])),
  (668, (.iload_n 3, 669, 3, .null, [])),
  (669, (.iconst 1, 670, 0, .int (1 : Int32), [])),
  (670, (.iadd, 671, 0, .null, [])),
  (671, (.iaload, 672, 0, .null, [])),
  (672, (.aload_n 0, 673, 0, .null, [])),
  (673, (.iload_n 3, 674, 3, .null, [])),
  (674, (.iconst 2, 675, 0, .int (2 : Int32), [])),
  (675, (.iadd, 676, 0, .null, [])),
  (676, (.iaload, 677, 0, .null, [])),
  (677, (.invokevirtual 70, 680, 70, .null, [])),
  (680, (.if_icmp .eq 1041, 683, 1721, .null, [])),
  (683, (.iconst 0, 684, 0, .int (0 : Int32), [])),
  (684, (.ireturn, 685, 0, .null, []))]
def mL_law_652 : List (Nat × XM) := [(67, (3, 1, some 8, FD_dodge)), (70, (3, 1, some 9, FM_dodge))]
abbrev BL_law_652 : XB := (rL_law_652, [], mL_law_652, 6, [])
set_option maxRecDepth 100000 in
theorem kL_law_652 : XOK BL_law_652 code 8 RL 11 416 := xok_of (cps := []) (K := []) (by decide +kernel) (fun _ h => absurd h List.not_mem_nil) (fun _ h => absurd h List.not_mem_nil) (fun _ _ _ _ h => by cases h) (List.forall_mem_cons.mpr ⟨⟨_, _, _, _, _, _, _, SD_dodge, rfl, rfl, Nat.le_of_ble_eq_true rfl, Nat.le_of_ble_eq_true rfl, cdD_dodge, lkL_67, imD_dodge, slD_dodge, inD_dodge, pmD_dodge⟩, List.forall_mem_cons.mpr ⟨⟨_, _, _, _, _, _, _, SM_dodge, rfl, rfl, Nat.le_of_ble_eq_true rfl, Nat.le_of_ble_eq_true rfl, cdM_dodge, lkL_70, imM_dodge, slM_dodge, inM_dodge, pmM_dodge⟩, fun _ h => absurd h List.not_mem_nil⟩⟩) (fun _ _ _ h => by cases h)
set_option maxRecDepth 100000 in
theorem eL_law_652 (k18 : Nat → Nat → Nat → Int32 → XH → XR) (a0 : Nat) (a1 : Nat) (a2 : Nat) (x3 : Int32) (h : XH) : qL_law_652 k18 a0 a1 a2 x3 h = xrun BL_law_652 (xfind [(1721, ([0, 1, 2, 3], wL_law_1721 (qL_law_1721 k18)))]) 30 652 (List.zip [0, 1, 2, 3] [.ref a0, .ref a1, .ref a2, .int x3]) [] h := rfl
theorem tL_law_652 {k18 : Nat → Nat → Nat → Int32 → XH → XR} (hk18 : XToR room_1 600000 7302250 code 8 RL 6 18 [0, 1, 2, 3] (wL_law_18 k18)) : XToR room_1 600000 7302250 code 8 RL 6 652 [0, 1, 2, 3] (wL_law_652 (qL_law_652 k18)) := by
  refine XToR.run (B := BL_law_652) (cut := xfind [(1721, ([0, 1, 2, 3], wL_law_1721 (qL_law_1721 k18)))]) ⟨Nat.le_of_ble_eq_true rfl, Nat.le_of_ble_eq_true rfl⟩ kL_law_652 (xcutsR_ok (List.forall_mem_cons.mpr ⟨tL_law_1721 hk18, fun _ h => absurd h List.not_mem_nil⟩)) 30 (fun vs st h r hr => ?_)
  unfold wL_law_652 at hr
  split at hr
  · exact (eL_law_652 k18 _ _ _ _ _).symm.trans hr
  · cases hr
def rL_law_685 : List (Nat × XRow) := [(685, (.aload_n 1, 686, 1, .null, [])),
  (686, (.invokevirtual 71, 689, 71, .null, [])),
  (689, (.aload_n 2, 690, 2, .null, [])),
  (690, (.invokevirtual 74, 693, 74, .null, [])),
  (693, (.if_icmp .eq 1028, 696, 1721, .null, [])),
  (696, (.iconst 0, 697, 0, .int (0 : Int32), [])),
  (697, (.ireturn, 698, 0, .null, []))]
def mL_law_685 : List (Nat × XM) := [(71, (1, 1, some 8, FD_labelAll)), (74, (1, 1, some 9, FM_labelAll))]
abbrev BL_law_685 : XB := (rL_law_685, [], mL_law_685, 6, [])
set_option maxRecDepth 100000 in
theorem kL_law_685 : XOK BL_law_685 code 8 RL 11 416 := xok_of (cps := []) (K := []) (by decide +kernel) (fun _ h => absurd h List.not_mem_nil) (fun _ h => absurd h List.not_mem_nil) (fun _ _ _ _ h => by cases h) (List.forall_mem_cons.mpr ⟨⟨_, _, _, _, _, _, _, SD_labelAll, rfl, rfl, Nat.le_of_ble_eq_true rfl, Nat.le_of_ble_eq_true rfl, cdD_labelAll, lkL_71, imD_labelAll, slD_labelAll, inD_labelAll, pmD_labelAll⟩, List.forall_mem_cons.mpr ⟨⟨_, _, _, _, _, _, _, SM_labelAll, rfl, rfl, Nat.le_of_ble_eq_true rfl, Nat.le_of_ble_eq_true rfl, cdM_labelAll, lkL_74, imM_labelAll, slM_labelAll, inM_labelAll, pmM_labelAll⟩, fun _ h => absurd h List.not_mem_nil⟩⟩) (fun _ _ _ h => by cases h)
set_option maxRecDepth 100000 in
theorem eL_law_685 (k18 : Nat → Nat → Nat → Int32 → XH → XR) (a0 : Nat) (a1 : Nat) (a2 : Nat) (x3 : Int32) (h : XH) : qL_law_685 k18 a0 a1 a2 x3 h = xrun BL_law_685 (xfind [(1721, ([0, 1, 2, 3], wL_law_1721 (qL_law_1721 k18)))]) 10 685 (List.zip [0, 1, 2, 3] [.ref a0, .ref a1, .ref a2, .int x3]) [] h := rfl
theorem tL_law_685 {k18 : Nat → Nat → Nat → Int32 → XH → XR} (hk18 : XToR room_1 600000 7302250 code 8 RL 6 18 [0, 1, 2, 3] (wL_law_18 k18)) : XToR room_1 600000 7302250 code 8 RL 6 685 [0, 1, 2, 3] (wL_law_685 (qL_law_685 k18)) := by
  refine XToR.run (B := BL_law_685) (cut := xfind [(1721, ([0, 1, 2, 3], wL_law_1721 (qL_law_1721 k18)))]) ⟨Nat.le_of_ble_eq_true rfl, Nat.le_of_ble_eq_true rfl⟩ kL_law_685 (xcutsR_ok (List.forall_mem_cons.mpr ⟨tL_law_1721 hk18, fun _ h => absurd h List.not_mem_nil⟩)) 10 (fun vs st h r hr => ?_)
  unfold wL_law_685 at hr
  split at hr
  · exact (eL_law_685 k18 _ _ _ _ _).symm.trans hr
  · cases hr
def rL_law_698 : List (Nat × XRow) := [(698, (.aload_n 1, 699, 1, .null, [])),
  (699, (.aload_n 0, 700, 0, .null, [])),
  (700, (.iload_n 3, 701, 3, .null, [])),
  (701, (.iconst 1, 702, 0, .int (1 : Int32), [])),
  (702, (.iadd, 703, 0, .null, [])),
  (703, (.iaload, 704, 0, .null, [])),
  (704, (.invokevirtual 75, 707, 75, .null, [])),
  (707, (.aload_n 2, 708, 2, .null, [])),
  (708, (.aload_n 0, 709, 0, .null, [])),
  (709, (.iload_n 3, 710, 3, .null, [])),
  (710, (.iconst 1, 711, 0, .int (1 : Int32), [])),
  (711, (.iadd, 712, 0, .null, [])),
  (712, (.iaload, 713, 0, .null, [])),
  (713, (.invokevirtual 78, 716, 78, .null, [])),
  (716, (.if_icmp .eq 1005, 719, 1721, .null, [])),
  (719, (.iconst 0, 720, 0, .int (0 : Int32), [])),
  (720, (.ireturn, 721, 0, .null, []))]
def mL_law_698 : List (Nat × XM) := [(75, (2, 1, some 8, FD_keep)), (78, (2, 1, some 9, FM_keep))]
abbrev BL_law_698 : XB := (rL_law_698, [], mL_law_698, 6, [])
set_option maxRecDepth 100000 in
theorem kL_law_698 : XOK BL_law_698 code 8 RL 11 416 := xok_of (cps := []) (K := []) (by decide +kernel) (fun _ h => absurd h List.not_mem_nil) (fun _ h => absurd h List.not_mem_nil) (fun _ _ _ _ h => by cases h) (List.forall_mem_cons.mpr ⟨⟨_, _, _, _, _, _, _, SD_keep, rfl, rfl, Nat.le_of_ble_eq_true rfl, Nat.le_of_ble_eq_true rfl, cdD_keep, lkL_75, imD_keep, slD_keep, inD_keep, pmD_keep⟩, List.forall_mem_cons.mpr ⟨⟨_, _, _, _, _, _, _, SM_keep, rfl, rfl, Nat.le_of_ble_eq_true rfl, Nat.le_of_ble_eq_true rfl, cdM_keep, lkL_78, imM_keep, slM_keep, inM_keep, pmM_keep⟩, fun _ h => absurd h List.not_mem_nil⟩⟩) (fun _ _ _ h => by cases h)
set_option maxRecDepth 100000 in
theorem eL_law_698 (k18 : Nat → Nat → Nat → Int32 → XH → XR) (a0 : Nat) (a1 : Nat) (a2 : Nat) (x3 : Int32) (h : XH) : qL_law_698 k18 a0 a1 a2 x3 h = xrun BL_law_698 (xfind [(1721, ([0, 1, 2, 3], wL_law_1721 (qL_law_1721 k18)))]) 20 698 (List.zip [0, 1, 2, 3] [.ref a0, .ref a1, .ref a2, .int x3]) [] h := rfl
theorem tL_law_698 {k18 : Nat → Nat → Nat → Int32 → XH → XR} (hk18 : XToR room_1 600000 7302250 code 8 RL 6 18 [0, 1, 2, 3] (wL_law_18 k18)) : XToR room_1 600000 7302250 code 8 RL 6 698 [0, 1, 2, 3] (wL_law_698 (qL_law_698 k18)) := by
  refine XToR.run (B := BL_law_698) (cut := xfind [(1721, ([0, 1, 2, 3], wL_law_1721 (qL_law_1721 k18)))]) ⟨Nat.le_of_ble_eq_true rfl, Nat.le_of_ble_eq_true rfl⟩ kL_law_698 (xcutsR_ok (List.forall_mem_cons.mpr ⟨tL_law_1721 hk18, fun _ h => absurd h List.not_mem_nil⟩)) 20 (fun vs st h r hr => ?_)
  unfold wL_law_698 at hr
  split at hr
  · exact (eL_law_698 k18 _ _ _ _ _).symm.trans hr
  · cases hr
def rL_law_721 : List (Nat × XRow) := [(721, (.aload_n 1, 722, 1, .null, [])),
  (722, (.aload_n 0, 723, 0, .null, [])),
  (723, (.iload_n 3, 724, 3, .null, [])),
  (724, (.iconst 1, 725, 0, .int (1 : Int32), [])),
  (725, (.iadd, 726, 0, .null, [])),
  (726, (.iaload, 727, 0, .null, [])),
  (727, (.invokevirtual 79, 730, 79, .null, [])),
  (730, (.aload_n 2, 731, 2, .null, [])),
  (731, (.aload_n 0, 732, 0, .null, [])),
  (732, (.iload_n 3, 733, 3, .null, [])),
  (733, (.iconst 1, 734, 0, .int (1 : Int32), [])),
  (734, (.iadd, 735, 0, .null, [])),
  (735, (.iaload, 736, 0, .null, [])),
  (736, (.invokevirtual 82, 739, 82, .null, [])),
  (739, (.if_icmp .eq 982, 742, 1721, .null, [])),
  (742, (.iconst 0, 743, 0, .int (0 : Int32), [])),
  (743, (.ireturn, 744, 0, .null, []))]
def mL_law_721 : List (Nat × XM) := [(79, (2, 1, some 8, FD_restore)), (82, (2, 1, some 9, FM_restore))]
abbrev BL_law_721 : XB := (rL_law_721, [], mL_law_721, 6, [])
set_option maxRecDepth 100000 in
theorem kL_law_721 : XOK BL_law_721 code 8 RL 11 416 := xok_of (cps := []) (K := []) (by decide +kernel) (fun _ h => absurd h List.not_mem_nil) (fun _ h => absurd h List.not_mem_nil) (fun _ _ _ _ h => by cases h) (List.forall_mem_cons.mpr ⟨⟨_, _, _, _, _, _, _, SD_restore, rfl, rfl, Nat.le_of_ble_eq_true rfl, Nat.le_of_ble_eq_true rfl, cdD_restore, lkL_79, imD_restore, slD_restore, inD_restore, pmD_restore⟩, List.forall_mem_cons.mpr ⟨⟨_, _, _, _, _, _, _, SM_restore, rfl, rfl, Nat.le_of_ble_eq_true rfl, Nat.le_of_ble_eq_true rfl, cdM_restore, lkL_82, imM_restore, slM_restore, inM_restore, pmM_restore⟩, fun _ h => absurd h List.not_mem_nil⟩⟩) (fun _ _ _ h => by cases h)
set_option maxRecDepth 100000 in
theorem eL_law_721 (k18 : Nat → Nat → Nat → Int32 → XH → XR) (a0 : Nat) (a1 : Nat) (a2 : Nat) (x3 : Int32) (h : XH) : qL_law_721 k18 a0 a1 a2 x3 h = xrun BL_law_721 (xfind [(1721, ([0, 1, 2, 3], wL_law_1721 (qL_law_1721 k18)))]) 20 721 (List.zip [0, 1, 2, 3] [.ref a0, .ref a1, .ref a2, .int x3]) [] h := rfl
theorem tL_law_721 {k18 : Nat → Nat → Nat → Int32 → XH → XR} (hk18 : XToR room_1 600000 7302250 code 8 RL 6 18 [0, 1, 2, 3] (wL_law_18 k18)) : XToR room_1 600000 7302250 code 8 RL 6 721 [0, 1, 2, 3] (wL_law_721 (qL_law_721 k18)) := by
  refine XToR.run (B := BL_law_721) (cut := xfind [(1721, ([0, 1, 2, 3], wL_law_1721 (qL_law_1721 k18)))]) ⟨Nat.le_of_ble_eq_true rfl, Nat.le_of_ble_eq_true rfl⟩ kL_law_721 (xcutsR_ok (List.forall_mem_cons.mpr ⟨tL_law_1721 hk18, fun _ h => absurd h List.not_mem_nil⟩)) 20 (fun vs st h r hr => ?_)
  unfold wL_law_721 at hr
  split at hr
  · exact (eL_law_721 k18 _ _ _ _ _).symm.trans hr
  · cases hr
def rL_law_744 : List (Nat × XRow) := [(744, (.aload_n 1, 745, 1, .null, [])),
  (745, (.invokevirtual 83, 748, 83, .null, [])),
  (748, (.aload_n 2, 749, 2, .null, [])),
  (749, (.invokevirtual 86, 752, 86, .null, [])),
  (752, (.if_icmp .eq 969, 755, 1721, .null, [])),
  (755, (.iconst 0, 756, 0, .int (0 : Int32), [])),
  (756, (.ireturn, 757, 0, .null, []))]
def mL_law_744 : List (Nat × XM) := [(83, (1, 1, some 8, FD_undo)), (86, (1, 1, some 9, FM_undo))]
abbrev BL_law_744 : XB := (rL_law_744, [], mL_law_744, 6, [])
set_option maxRecDepth 100000 in
theorem kL_law_744 : XOK BL_law_744 code 8 RL 11 416 := xok_of (cps := []) (K := []) (by decide +kernel) (fun _ h => absurd h List.not_mem_nil) (fun _ h => absurd h List.not_mem_nil) (fun _ _ _ _ h => by cases h) (List.forall_mem_cons.mpr ⟨⟨_, _, _, _, _, _, _, SD_undo, rfl, rfl, Nat.le_of_ble_eq_true rfl, Nat.le_of_ble_eq_true rfl, cdD_undo, lkL_83, imD_undo, slD_undo, inD_undo, pmD_undo⟩, List.forall_mem_cons.mpr ⟨⟨_, _, _, _, _, _, _, SM_undo, rfl, rfl, Nat.le_of_ble_eq_true rfl, Nat.le_of_ble_eq_true rfl, cdM_undo, lkL_86, imM_undo, slM_undo, inM_undo, pmM_undo⟩, fun _ h => absurd h List.not_mem_nil⟩⟩) (fun _ _ _ h => by cases h)
set_option maxRecDepth 100000 in
theorem eL_law_744 (k18 : Nat → Nat → Nat → Int32 → XH → XR) (a0 : Nat) (a1 : Nat) (a2 : Nat) (x3 : Int32) (h : XH) : qL_law_744 k18 a0 a1 a2 x3 h = xrun BL_law_744 (xfind [(1721, ([0, 1, 2, 3], wL_law_1721 (qL_law_1721 k18)))]) 10 744 (List.zip [0, 1, 2, 3] [.ref a0, .ref a1, .ref a2, .int x3]) [] h := rfl
theorem tL_law_744 {k18 : Nat → Nat → Nat → Int32 → XH → XR} (hk18 : XToR room_1 600000 7302250 code 8 RL 6 18 [0, 1, 2, 3] (wL_law_18 k18)) : XToR room_1 600000 7302250 code 8 RL 6 744 [0, 1, 2, 3] (wL_law_744 (qL_law_744 k18)) := by
  refine XToR.run (B := BL_law_744) (cut := xfind [(1721, ([0, 1, 2, 3], wL_law_1721 (qL_law_1721 k18)))]) ⟨Nat.le_of_ble_eq_true rfl, Nat.le_of_ble_eq_true rfl⟩ kL_law_744 (xcutsR_ok (List.forall_mem_cons.mpr ⟨tL_law_1721 hk18, fun _ h => absurd h List.not_mem_nil⟩)) 10 (fun vs st h r hr => ?_)
  unfold wL_law_744 at hr
  split at hr
  · exact (eL_law_744 k18 _ _ _ _ _).symm.trans hr
  · cases hr
def rL_law_757 : List (Nat × XRow) := [(757, (.aload_n 1, 758, 1, .null, [])),
  (758, (.aload_n 0, 759, 0, .null, [])),
  (759, (.iload_n 3, 760, 3, .null, [])),
  (760, (.iconst 1, 761, 0, .int (1 : Int32), [])),
  (761, (.iadd, 762, 0, .null, [])),
  (762, (.iaload, 763, 0, .null, [])),
  (763, (.invokevirtual 87, 766, 87, .null, [])),
  (766, (.aload_n 2, 767, 2, .null, [])),
  (767, (.aload_n 0, 768, 0, .null, [])),
  (768, (.iload_n 3, 769, 3, .null, [])),
  (769, (.iconst 1, 770, 0, .int (1 : Int32), [])),
  (770, (.iadd, 771, 0, .null, [])),
  (771, (.iaload, 772, 0, .null, [])),
  (772, (.invokevirtual 90, 775, 90, .null, [])),
  (775, (.if_icmp .eq 946, 778, 1721, .null, [])),
  (778, (.iconst 0, 779, 0, .int (0 : Int32), [])),
  (779, (.ireturn, 780, 0, .null, []))]
def mL_law_757 : List (Nat × XM) := [(87, (2, 1, some 8, FD_value)), (90, (2, 1, some 9, FM_value))]
abbrev BL_law_757 : XB := (rL_law_757, [], mL_law_757, 6, [])
set_option maxRecDepth 100000 in
theorem kL_law_757 : XOK BL_law_757 code 8 RL 11 416 := xok_of (cps := []) (K := []) (by decide +kernel) (fun _ h => absurd h List.not_mem_nil) (fun _ h => absurd h List.not_mem_nil) (fun _ _ _ _ h => by cases h) (List.forall_mem_cons.mpr ⟨⟨_, _, _, _, _, _, _, SD_value, rfl, rfl, Nat.le_of_ble_eq_true rfl, Nat.le_of_ble_eq_true rfl, cdD_value, lkL_87, imD_value, slD_value, inD_value, pmD_value⟩, List.forall_mem_cons.mpr ⟨⟨_, _, _, _, _, _, _, SM_value, rfl, rfl, Nat.le_of_ble_eq_true rfl, Nat.le_of_ble_eq_true rfl, cdM_value, lkL_90, imM_value, slM_value, inM_value, pmM_value⟩, fun _ h => absurd h List.not_mem_nil⟩⟩) (fun _ _ _ h => by cases h)
set_option maxRecDepth 100000 in
theorem eL_law_757 (k18 : Nat → Nat → Nat → Int32 → XH → XR) (a0 : Nat) (a1 : Nat) (a2 : Nat) (x3 : Int32) (h : XH) : qL_law_757 k18 a0 a1 a2 x3 h = xrun BL_law_757 (xfind [(1721, ([0, 1, 2, 3], wL_law_1721 (qL_law_1721 k18)))]) 20 757 (List.zip [0, 1, 2, 3] [.ref a0, .ref a1, .ref a2, .int x3]) [] h := rfl
theorem tL_law_757 {k18 : Nat → Nat → Nat → Int32 → XH → XR} (hk18 : XToR room_1 600000 7302250 code 8 RL 6 18 [0, 1, 2, 3] (wL_law_18 k18)) : XToR room_1 600000 7302250 code 8 RL 6 757 [0, 1, 2, 3] (wL_law_757 (qL_law_757 k18)) := by
  refine XToR.run (B := BL_law_757) (cut := xfind [(1721, ([0, 1, 2, 3], wL_law_1721 (qL_law_1721 k18)))]) ⟨Nat.le_of_ble_eq_true rfl, Nat.le_of_ble_eq_true rfl⟩ kL_law_757 (xcutsR_ok (List.forall_mem_cons.mpr ⟨tL_law_1721 hk18, fun _ h => absurd h List.not_mem_nil⟩)) 20 (fun vs st h r hr => ?_)
  unfold wL_law_757 at hr
  split at hr
  · exact (eL_law_757 k18 _ _ _ _ _).symm.trans hr
  · cases hr
def rL_law_780 : List (Nat × XRow) := [(780, (.aload_n 1, 781, 1, .null, [])),
  (781, (.aload_n 0, 782, 0, .null, [])),
  (782, (.iload_n 3, 783, 3, .null, [])),
  (783, (.iconst 1, 784, 0, .int (1 : Int32), [])),
  (784, (.iadd, 785, 0, .null, [])),
  (785, (.iaload, 786, 0, .null, [])),
  (786, (.aload_n 0, 787, 0, .null, [])),
  (787, (.iload_n 3, 788, 3, .null, [])),
  (788, (.iconst 2, 789, 0, .int (2 : Int32), [])),
  (789, (.iadd, 790, 0, .null, [])),
  (790, (.iaload, 791, 0, .null, [])),
  (791, (.invokevirtual 91, 794, 91, .null, [])),
  (794, (.aload_n 2, 795, 2, .null, [])),
  (795, (.aload_n 0, 796, 0, .null, [])),
  (796, (.iload_n 3, 797, 3, .null, [])),
  (797, (.iconst 1, 798, 0, .int (1 : Int32), [])),
  (798, (.iadd, 799, 0, .null, [])),
  (799, (.iaload, 800, 0, .null, [])),
  (800, (.aload_n 0, 801, 0, .null, [])),
  (801, (.iload_n 3, 802, 3, .null, [])),
  (802, (.iconst 2, 803, 0, .int (2 : Int32), [])),
  (803, (.iadd, 804, 0, .null, [])),
  (804, (.iaload, 805, 0, .null, [])),
  (805, (.invokevirtual 94, 808, 94, .null, [])),
  (808, (.if_icmp .eq 913, 811, 1721, .null, [])),
  (811, (.iconst 0, 812, 0, .int (0 : Int32), [])),
  (812, (.ireturn, 813, 0, .null, []))]
def mL_law_780 : List (Nat × XM) := [(91, (3, 1, some 8, FD_line)), (94, (3, 1, some 9, FM_line))]
abbrev BL_law_780 : XB := (rL_law_780, [], mL_law_780, 6, [])
set_option maxRecDepth 100000 in
theorem kL_law_780 : XOK BL_law_780 code 8 RL 11 416 := xok_of (cps := []) (K := []) (by decide +kernel) (fun _ h => absurd h List.not_mem_nil) (fun _ h => absurd h List.not_mem_nil) (fun _ _ _ _ h => by cases h) (List.forall_mem_cons.mpr ⟨⟨_, _, _, _, _, _, _, SD_line, rfl, rfl, Nat.le_of_ble_eq_true rfl, Nat.le_of_ble_eq_true rfl, cdD_line, lkL_91, imD_line, slD_line, inD_line, pmD_line⟩, List.forall_mem_cons.mpr ⟨⟨_, _, _, _, _, _, _, SM_line, rfl, rfl, Nat.le_of_ble_eq_true rfl, Nat.le_of_ble_eq_true rfl, cdM_line, lkL_94, imM_line, slM_line, inM_line, pmM_line⟩, fun _ h => absurd h List.not_mem_nil⟩⟩) (fun _ _ _ h => by cases h)
set_option maxRecDepth 100000 in
theorem eL_law_780 (k18 : Nat → Nat → Nat → Int32 → XH → XR) (a0 : Nat) (a1 : Nat) (a2 : Nat) (x3 : Int32) (h : XH) : qL_law_780 k18 a0 a1 a2 x3 h = xrun BL_law_780 (xfind [(1721, ([0, 1, 2, 3], wL_law_1721 (qL_law_1721 k18)))]) 30 780 (List.zip [0, 1, 2, 3] [.ref a0, .ref a1, .ref a2, .int x3]) [] h := rfl
theorem tL_law_780 {k18 : Nat → Nat → Nat → Int32 → XH → XR} (hk18 : XToR room_1 600000 7302250 code 8 RL 6 18 [0, 1, 2, 3] (wL_law_18 k18)) : XToR room_1 600000 7302250 code 8 RL 6 780 [0, 1, 2, 3] (wL_law_780 (qL_law_780 k18)) := by
  refine XToR.run (B := BL_law_780) (cut := xfind [(1721, ([0, 1, 2, 3], wL_law_1721 (qL_law_1721 k18)))]) ⟨Nat.le_of_ble_eq_true rfl, Nat.le_of_ble_eq_true rfl⟩ kL_law_780 (xcutsR_ok (List.forall_mem_cons.mpr ⟨tL_law_1721 hk18, fun _ h => absurd h List.not_mem_nil⟩)) 30 (fun vs st h r hr => ?_)
  unfold wL_law_780 at hr
  split at hr
  · exact (eL_law_780 k18 _ _ _ _ _).symm.trans hr
  · cases hr
def rL_law_864 : List (Nat × XRow) := [(864, (.invokevirtual 99, 867, 99, .null, [])),
  (867, (.if_icmp .eq 854, 870, 1721, .null, [])),
  (870, (.iconst 0, 871, 0, .int (0 : Int32), [])),
  (871, (.ireturn, 872, 0, .null, []))]
def mL_law_864 : List (Nat × XM) := [(99, (4, 1, some 9, FM_point))]
abbrev BL_law_864 : XB := (rL_law_864, [], mL_law_864, 6, [])
set_option maxRecDepth 100000 in
theorem kL_law_864 : XOK BL_law_864 code 8 RL 11 416 := xok_of (cps := []) (K := []) (by decide +kernel) (fun _ h => absurd h List.not_mem_nil) (fun _ h => absurd h List.not_mem_nil) (fun _ _ _ _ h => by cases h) (List.forall_mem_cons.mpr ⟨⟨_, _, _, _, _, _, _, SM_point, rfl, rfl, Nat.le_of_ble_eq_true rfl, Nat.le_of_ble_eq_true rfl, cdM_point, lkL_99, imM_point, slM_point, inM_point, pmM_point⟩, fun _ h => absurd h List.not_mem_nil⟩) (fun _ _ _ h => by cases h)
set_option maxRecDepth 100000 in
theorem eL_law_864 (k18 : Nat → Nat → Nat → Int32 → XH → XR) (a0 : Nat) (a1 : Nat) (a2 : Nat) (x3 : Int32) (s0 : Int32) (s1 : Int32) (s2 : Int32) (s3 : Nat) (s4 : Int32) (h : XH) : qL_law_864 k18 a0 a1 a2 x3 s0 s1 s2 s3 s4 h = xrun BL_law_864 (xfind [(1721, ([0, 1, 2, 3], wL_law_1721 (qL_law_1721 k18)))]) 7 864 (List.zip [0, 1, 2, 3] [.ref a0, .ref a1, .ref a2, .int x3]) [.int s0, .int s1, .int s2, .ref s3, .int s4] h := rfl
theorem tL_law_864 {k18 : Nat → Nat → Nat → Int32 → XH → XR} (hk18 : XToR room_1 600000 7302250 code 8 RL 6 18 [0, 1, 2, 3] (wL_law_18 k18)) : XToR room_1 600000 7302250 code 8 RL 6 864 [0, 1, 2, 3] (wL_law_864 (qL_law_864 k18)) := by
  refine XToR.run (B := BL_law_864) (cut := xfind [(1721, ([0, 1, 2, 3], wL_law_1721 (qL_law_1721 k18)))]) ⟨Nat.le_of_ble_eq_true rfl, Nat.le_of_ble_eq_true rfl⟩ kL_law_864 (xcutsR_ok (List.forall_mem_cons.mpr ⟨tL_law_1721 hk18, fun _ h => absurd h List.not_mem_nil⟩)) 7 (fun vs st h r hr => ?_)
  unfold wL_law_864 at hr
  split at hr
  · exact (eL_law_864 k18 _ _ _ _ _ _ _ _ _ _).symm.trans hr
  · cases hr
def rL_law_837 : List (Nat × XRow) := [(837, (.invokevirtual 95, 840, 95, .null, [])),
  (840, (.aload_n 2, 841, 2, .null, [])),
  (841, (.aload_n 0, 842, 0, .null, [])),
  (842, (.iload_n 3, 843, 3, .null, [])),
  (843, (.iconst 1, 844, 0, .int (1 : Int32), [])),
  (844, (.iadd, 845, 0, .null, [])),
  (845, (.iaload, 846, 0, .null, [])),
  (846, (.aload_n 0, 847, 0, .null, [])),
  (847, (.iload_n 3, 848, 3, .null, [])),
  (848, (.iconst 2, 849, 0, .int (2 : Int32), [])),
  (849, (.iadd, 850, 0, .null, [])),
  (850, (.iaload, 851, 0, .null, [])),
  (851, (.aload_n 0, 852, 0, .null, [])),
  (852, (.iload_n 3, 853, 3, .null, [])),
  (853, (.iconst 3, 854, 0, .int (3 : Int32), [])),
  (854, (.iadd, 855, 0, .null, [])),
  (855, (.iaload, 856, 0, .null, [])),
  (856, (.ifCond .eq 7, 859, 863, .null, [])),
  (859, (.iconst 1, 860, 0, .int (1 : Int32), [])),
  (860, (.goto 4, 863, 864, .null, [])),
  (863, (.iconst 0, 864, 0, .int (0 : Int32), []))]
def mL_law_837 : List (Nat × XM) := [(95, (4, 1, some 8, FD_point))]
abbrev BL_law_837 : XB := (rL_law_837, [], mL_law_837, 6, [])
set_option maxRecDepth 100000 in
theorem kL_law_837 : XOK BL_law_837 code 8 RL 11 416 := xok_of (cps := []) (K := []) (by decide +kernel) (fun _ h => absurd h List.not_mem_nil) (fun _ h => absurd h List.not_mem_nil) (fun _ _ _ _ h => by cases h) (List.forall_mem_cons.mpr ⟨⟨_, _, _, _, _, _, _, SD_point, rfl, rfl, Nat.le_of_ble_eq_true rfl, Nat.le_of_ble_eq_true rfl, cdD_point, lkL_95, imD_point, slD_point, inD_point, pmD_point⟩, fun _ h => absurd h List.not_mem_nil⟩) (fun _ _ _ h => by cases h)
set_option maxRecDepth 100000 in
theorem eL_law_837 (k18 : Nat → Nat → Nat → Int32 → XH → XR) (a0 : Nat) (a1 : Nat) (a2 : Nat) (x3 : Int32) (s0 : Int32) (s1 : Int32) (s2 : Int32) (s3 : Nat) (h : XH) : qL_law_837 k18 a0 a1 a2 x3 s0 s1 s2 s3 h = xrun BL_law_837 (xfind [(864, ([0, 1, 2, 3], wL_law_864 (qL_law_864 k18)))]) 24 837 (List.zip [0, 1, 2, 3] [.ref a0, .ref a1, .ref a2, .int x3]) [.int s0, .int s1, .int s2, .ref s3] h := rfl
theorem tL_law_837 {k18 : Nat → Nat → Nat → Int32 → XH → XR} (hk18 : XToR room_1 600000 7302250 code 8 RL 6 18 [0, 1, 2, 3] (wL_law_18 k18)) : XToR room_1 600000 7302250 code 8 RL 6 837 [0, 1, 2, 3] (wL_law_837 (qL_law_837 k18)) := by
  refine XToR.run (B := BL_law_837) (cut := xfind [(864, ([0, 1, 2, 3], wL_law_864 (qL_law_864 k18)))]) ⟨Nat.le_of_ble_eq_true rfl, Nat.le_of_ble_eq_true rfl⟩ kL_law_837 (xcutsR_ok (List.forall_mem_cons.mpr ⟨tL_law_864 hk18, fun _ h => absurd h List.not_mem_nil⟩)) 24 (fun vs st h r hr => ?_)
  unfold wL_law_837 at hr
  split at hr
  · exact (eL_law_837 k18 _ _ _ _ _ _ _ _ _).symm.trans hr
  · cases hr
def rL_law_813 : List (Nat × XRow) := [(813, (.aload_n 1, 814, 1, .null, [])),
  (814, (.aload_n 0, 815, 0, .null, [])),
  (815, (.iload_n 3, 816, 3, .null, [])),
  (816, (.iconst 1, 817, 0, .int (1 : Int32), [])),
  (817, (.iadd, 818, 0, .null, [])),
  (818, (.iaload, 819, 0, .null, [])),
  (819, (.aload_n 0, 820, 0, .null, [])),
  (820, (.iload_n 3, 821, 3, .null, [])),
  (821, (.iconst 2, 822, 0, .int (2 : Int32), [])),
  (822, (.iadd, 823, 0, .null, [])),
  (823, (.iaload, 824, 0, .null, [])),
  (824, (.aload_n 0, 825, 0, .null, [])),
  (825, (.iload_n 3, 826, 3, .null, [])),
  (826, (.iconst 3, 827, 0, .int (3 : Int32), [])),
  (827, (.iadd, 828, 0, .null, [])),
  (828, (.iaload, 829, 0, .null, [])),
  (829, (.ifCond .eq 7, 832, 836, .null, [])),
  (832, (.iconst 1, 833, 0, .int (1 : Int32), [])),
  (833, (.goto 4, 836, 837, .null, [])),
  (836, (.iconst 0, 837, 0, .int (0 : Int32), []))]
def mL_law_813 : List (Nat × XM) := []
abbrev BL_law_813 : XB := (rL_law_813, [], mL_law_813, 6, [])
set_option maxRecDepth 100000 in
theorem kL_law_813 : XOK BL_law_813 code 8 RL 11 416 := xok_of (cps := []) (K := []) (by decide +kernel) (fun _ h => absurd h List.not_mem_nil) (fun _ h => absurd h List.not_mem_nil) (fun _ _ _ _ h => by cases h) (fun _ h => absurd h List.not_mem_nil) (fun _ _ _ h => by cases h)
set_option maxRecDepth 100000 in
theorem eL_law_813 (k18 : Nat → Nat → Nat → Int32 → XH → XR) (a0 : Nat) (a1 : Nat) (a2 : Nat) (x3 : Int32) (h : XH) : qL_law_813 k18 a0 a1 a2 x3 h = xrun BL_law_813 (xfind [(837, ([0, 1, 2, 3], wL_law_837 (qL_law_837 k18)))]) 23 813 (List.zip [0, 1, 2, 3] [.ref a0, .ref a1, .ref a2, .int x3]) [] h := rfl
theorem tL_law_813 {k18 : Nat → Nat → Nat → Int32 → XH → XR} (hk18 : XToR room_1 600000 7302250 code 8 RL 6 18 [0, 1, 2, 3] (wL_law_18 k18)) : XToR room_1 600000 7302250 code 8 RL 6 813 [0, 1, 2, 3] (wL_law_813 (qL_law_813 k18)) := by
  refine XToR.run (B := BL_law_813) (cut := xfind [(837, ([0, 1, 2, 3], wL_law_837 (qL_law_837 k18)))]) ⟨Nat.le_of_ble_eq_true rfl, Nat.le_of_ble_eq_true rfl⟩ kL_law_813 (xcutsR_ok (List.forall_mem_cons.mpr ⟨tL_law_837 hk18, fun _ h => absurd h List.not_mem_nil⟩)) 23 (fun vs st h r hr => ?_)
  unfold wL_law_813 at hr
  split at hr
  · exact (eL_law_813 k18 _ _ _ _ _).symm.trans hr
  · cases hr
def rL_law_872 : List (Nat × XRow) := [(872, (.aload_n 1, 873, 1, .null, [])),
  (873, (.aload_n 0, 874, 0, .null, [])),
  (874, (.iload_n 3, 875, 3, .null, [])),
  (875, (.iconst 1, 876, 0, .int (1 : Int32), [])),
  (876, (.iadd, 877, 0, .null, [])),
  (877, (.iaload, 878, 0, .null, [])),
  (878, (.aload_n 0, 879, 0, .null, [])),
  (879, (.iload_n 3, 880, 3, .null, [])),
  (880, (.iconst 2, 881, 0, .int (2 : Int32), [])),
  (881, (.iadd, 882, 0, .null, [])),
  (882, (.iaload, 883, 0, .null, [])),
  (883, (.invokevirtual 100, 886, 100, .null, [])),
  (886, (.aload_n 2, 887, 2, .null, [])),
  (887, (.aload_n 0, 888, 0, .null, [])),
  (888, (.iload_n 3, 889, 3, .null, [])),
  (889, (.iconst 1, 890, 0, .int (1 : Int32), [])),
  (890, (.iadd, 891, 0, .null, [])),
  (891, (.iaload, 892, 0, .null, [])),
  (892, (.aload_n 0, 893, 0, .null, [])),
  (893, (.iload_n 3, 894, 3, .null, [])),
  (894, (.iconst 2, 895, 0, .int (2 : Int32), [])),
  (895, (.iadd, 896, 0, .null, [])),
  (896, (.iaload, 897, 0, .null, [])),
  (897, (.invokevirtual 103, 900, 103, .null, [])),
  (900, (.if_icmp .eq 821, 903, 1721, .null, [])),
  (903, (.iconst 0, 904, 0, .int (0 : Int32), [])),
  (904, (.ireturn, 905, 0, .null, []))]
def mL_law_872 : List (Nat × XM) := [(100, (3, 1, some 8, FD_turn)), (103, (3, 1, some 9, FM_turn))]
abbrev BL_law_872 : XB := (rL_law_872, [], mL_law_872, 6, [])
set_option maxRecDepth 100000 in
theorem kL_law_872 : XOK BL_law_872 code 8 RL 11 416 := xok_of (cps := []) (K := []) (by decide +kernel) (fun _ h => absurd h List.not_mem_nil) (fun _ h => absurd h List.not_mem_nil) (fun _ _ _ _ h => by cases h) (List.forall_mem_cons.mpr ⟨⟨_, _, _, _, _, _, _, SD_turn, rfl, rfl, Nat.le_of_ble_eq_true rfl, Nat.le_of_ble_eq_true rfl, cdD_turn, lkL_100, imD_turn, slD_turn, inD_turn, pmD_turn⟩, List.forall_mem_cons.mpr ⟨⟨_, _, _, _, _, _, _, SM_turn, rfl, rfl, Nat.le_of_ble_eq_true rfl, Nat.le_of_ble_eq_true rfl, cdM_turn, lkL_103, imM_turn, slM_turn, inM_turn, pmM_turn⟩, fun _ h => absurd h List.not_mem_nil⟩⟩) (fun _ _ _ h => by cases h)
set_option maxRecDepth 100000 in
theorem eL_law_872 (k18 : Nat → Nat → Nat → Int32 → XH → XR) (a0 : Nat) (a1 : Nat) (a2 : Nat) (x3 : Int32) (h : XH) : qL_law_872 k18 a0 a1 a2 x3 h = xrun BL_law_872 (xfind [(1721, ([0, 1, 2, 3], wL_law_1721 (qL_law_1721 k18)))]) 30 872 (List.zip [0, 1, 2, 3] [.ref a0, .ref a1, .ref a2, .int x3]) [] h := rfl
theorem tL_law_872 {k18 : Nat → Nat → Nat → Int32 → XH → XR} (hk18 : XToR room_1 600000 7302250 code 8 RL 6 18 [0, 1, 2, 3] (wL_law_18 k18)) : XToR room_1 600000 7302250 code 8 RL 6 872 [0, 1, 2, 3] (wL_law_872 (qL_law_872 k18)) := by
  refine XToR.run (B := BL_law_872) (cut := xfind [(1721, ([0, 1, 2, 3], wL_law_1721 (qL_law_1721 k18)))]) ⟨Nat.le_of_ble_eq_true rfl, Nat.le_of_ble_eq_true rfl⟩ kL_law_872 (xcutsR_ok (List.forall_mem_cons.mpr ⟨tL_law_1721 hk18, fun _ h => absurd h List.not_mem_nil⟩)) 30 (fun vs st h r hr => ?_)
  unfold wL_law_872 at hr
  split at hr
  · exact (eL_law_872 k18 _ _ _ _ _).symm.trans hr
  · cases hr
def rL_law_905 : List (Nat × XRow) := [(905, (.aload_n 1, 906, 1, .null, [])),
  (906, (.aload_n 0, 907, 0, .null, [])),
  (907, (.iload_n 3, 908, 3, .null, [])),
  (908, (.iconst 1, 909, 0, .int (1 : Int32), [])),
  (909, (.iadd, 910, 0, .null, [])),
  (910, (.iaload, 911, 0, .null, [])),
  (911, (.aload_n 0, 912, 0, .null, [])),
  (912, (.iload_n 3, 913, 3, .null, [])),
  (913, (.iconst 2, 914, 0, .int (2 : Int32), [])),
  (914, (.iadd, 915, 0, .null, [])),
  (915, (.iaload, 916, 0, .null, [])),
  (916, (.aload_n 0, 917, 0, .null, [])),
  (917, (.iload_n 3, 918, 3, .null, [])),
  (918, (.iconst 3, 919, 0, .int (3 : Int32), [])),
  (919, (.iadd, 920, 0, .null, [])),
  (920, (.iaload, 921, 0, .null, [])),
  (921, (.invokevirtual 104, 924, 104, .null, [])),
  (924, (.aload_n 2, 925, 2, .null, [])),
  (925, (.aload_n 0, 926, 0, .null, [])),
  (926, (.iload_n 3, 927, 3, .null, [])),
  (927, (.iconst 1, 928, 0, .int (1 : Int32), [])),
  (928, (.iadd, 929, 0, .null, [])),
  (929, (.iaload, 930, 0, .null, [])),
  (930, (.aload_n 0, 931, 0, .null, [])),
  (931, (.iload_n 3, 932, 3, .null, [])),
  (932, (.iconst 2, 933, 0, .int (2 : Int32), [])),
  (933, (.iadd, 934, 0, .null, [])),
  (934, (.iaload, 935, 0, .null, [])),
  (935, (.aload_n 0, 936, 0, .null, [])),
  (936, (.iload_n 3, 937, 3, .null, [])),
  (937, (.iconst 3, 938, 0, .int (3 : Int32), [])),
  (938, (.iadd, 939, 0, .null, [])),
  (939, (.iaload, 940, 0, .null, [])),
  (940, (.invokevirtual 107, 943, 107, .null, [])),
  (943, (.if_icmp .eq 778, 946, 1721, .null, [])),
  (946, (.iconst 0, 947, 0, .int (0 : Int32), [])),
  (947, (.ireturn, 948, 0, .null, []))]
def mL_law_905 : List (Nat × XM) := [(104, (4, 1, some 8, FD_station)), (107, (4, 1, some 9, FM_station))]
abbrev BL_law_905 : XB := (rL_law_905, [], mL_law_905, 6, [])
set_option maxRecDepth 100000 in
theorem kL_law_905 : XOK BL_law_905 code 8 RL 11 416 := xok_of (cps := []) (K := []) (by decide +kernel) (fun _ h => absurd h List.not_mem_nil) (fun _ h => absurd h List.not_mem_nil) (fun _ _ _ _ h => by cases h) (List.forall_mem_cons.mpr ⟨⟨_, _, _, _, _, _, _, SD_station, rfl, rfl, Nat.le_of_ble_eq_true rfl, Nat.le_of_ble_eq_true rfl, cdD_station, lkL_104, imD_station, slD_station, inD_station, pmD_station⟩, List.forall_mem_cons.mpr ⟨⟨_, _, _, _, _, _, _, SM_station, rfl, rfl, Nat.le_of_ble_eq_true rfl, Nat.le_of_ble_eq_true rfl, cdM_station, lkL_107, imM_station, slM_station, inM_station, pmM_station⟩, fun _ h => absurd h List.not_mem_nil⟩⟩) (fun _ _ _ h => by cases h)
set_option maxRecDepth 100000 in
theorem eL_law_905 (k18 : Nat → Nat → Nat → Int32 → XH → XR) (a0 : Nat) (a1 : Nat) (a2 : Nat) (x3 : Int32) (h : XH) : qL_law_905 k18 a0 a1 a2 x3 h = xrun BL_law_905 (xfind [(1721, ([0, 1, 2, 3], wL_law_1721 (qL_law_1721 k18)))]) 40 905 (List.zip [0, 1, 2, 3] [.ref a0, .ref a1, .ref a2, .int x3]) [] h := rfl
theorem tL_law_905 {k18 : Nat → Nat → Nat → Int32 → XH → XR} (hk18 : XToR room_1 600000 7302250 code 8 RL 6 18 [0, 1, 2, 3] (wL_law_18 k18)) : XToR room_1 600000 7302250 code 8 RL 6 905 [0, 1, 2, 3] (wL_law_905 (qL_law_905 k18)) := by
  refine XToR.run (B := BL_law_905) (cut := xfind [(1721, ([0, 1, 2, 3], wL_law_1721 (qL_law_1721 k18)))]) ⟨Nat.le_of_ble_eq_true rfl, Nat.le_of_ble_eq_true rfl⟩ kL_law_905 (xcutsR_ok (List.forall_mem_cons.mpr ⟨tL_law_1721 hk18, fun _ h => absurd h List.not_mem_nil⟩)) 40 (fun vs st h r hr => ?_)
  unfold wL_law_905 at hr
  split at hr
  · exact (eL_law_905 k18 _ _ _ _ _).symm.trans hr
  · cases hr
def rL_law_948 : List (Nat × XRow) := [(948, (.aload_n 1, 949, 1, .null, [])),
  (949, (.aload_n 0, 950, 0, .null, [])),
  (950, (.iload_n 3, 951, 3, .null, [])),
  (951, (.iconst 1, 952, 0, .int (1 : Int32), [])),
  (952, (.iadd, 953, 0, .null, [])),
  (953, (.iaload, 954, 0, .null, [])),
  (954, (.aload_n 0, 955, 0, .null, [])),
  (955, (.iload_n 3, 956, 3, .null, [])),
  (956, (.iconst 2, 957, 0, .int (2 : Int32), [])),
  (957, (.iadd, 958, 0, .null, [])),
  (958, (.iaload, 959, 0, .null, [])),
  (959, (.invokevirtual 108, 962, 108, .null, [])),
  (962, (.aload_n 2, 963, 2, .null, [])),
  (963, (.aload_n 0, 964, 0, .null, [])),
  (964, (.iload_n 3, 965, 3, .null, [])),
  (965, (.iconst 1, 966, 0, .int (1 : Int32), [])),
  (966, (.iadd, 967, 0, .null, [])),
  (967, (.iaload, 968, 0, .null, [])),
  (968, (.aload_n 0, 969, 0, .null, [])),
  (969, (.iload_n 3, 970, 3, .null, [])),
  (970, (.iconst 2, 971, 0, .int (2 : Int32), [])),
  (971, (.iadd, 972, 0, .null, [])),
  (972, (.iaload, 973, 0, .null, [])),
  (973, (.invokevirtual 111, 976, 111, .null, [])),
  (976, (.if_icmp .eq 745, 979, 1721, .null, [])),
  (979, (.iconst 0, 980, 0, .int (0 : Int32), [])),
  (980, (.ireturn, 981, 0, .null, []))]
def mL_law_948 : List (Nat × XM) := [(108, (3, 1, some 8, FD_at)), (111, (3, 1, some 9, FM_at))]
abbrev BL_law_948 : XB := (rL_law_948, [], mL_law_948, 6, [])
set_option maxRecDepth 100000 in
theorem kL_law_948 : XOK BL_law_948 code 8 RL 11 416 := xok_of (cps := []) (K := []) (by decide +kernel) (fun _ h => absurd h List.not_mem_nil) (fun _ h => absurd h List.not_mem_nil) (fun _ _ _ _ h => by cases h) (List.forall_mem_cons.mpr ⟨⟨_, _, _, _, _, _, _, SD_at, rfl, rfl, Nat.le_of_ble_eq_true rfl, Nat.le_of_ble_eq_true rfl, cdD_at, lkL_108, imD_at, slD_at, inD_at, pmD_at⟩, List.forall_mem_cons.mpr ⟨⟨_, _, _, _, _, _, _, SM_at, rfl, rfl, Nat.le_of_ble_eq_true rfl, Nat.le_of_ble_eq_true rfl, cdM_at, lkL_111, imM_at, slM_at, inM_at, pmM_at⟩, fun _ h => absurd h List.not_mem_nil⟩⟩) (fun _ _ _ h => by cases h)
set_option maxRecDepth 100000 in
theorem eL_law_948 (k18 : Nat → Nat → Nat → Int32 → XH → XR) (a0 : Nat) (a1 : Nat) (a2 : Nat) (x3 : Int32) (h : XH) : qL_law_948 k18 a0 a1 a2 x3 h = xrun BL_law_948 (xfind [(1721, ([0, 1, 2, 3], wL_law_1721 (qL_law_1721 k18)))]) 30 948 (List.zip [0, 1, 2, 3] [.ref a0, .ref a1, .ref a2, .int x3]) [] h := rfl
theorem tL_law_948 {k18 : Nat → Nat → Nat → Int32 → XH → XR} (hk18 : XToR room_1 600000 7302250 code 8 RL 6 18 [0, 1, 2, 3] (wL_law_18 k18)) : XToR room_1 600000 7302250 code 8 RL 6 948 [0, 1, 2, 3] (wL_law_948 (qL_law_948 k18)) := by
  refine XToR.run (B := BL_law_948) (cut := xfind [(1721, ([0, 1, 2, 3], wL_law_1721 (qL_law_1721 k18)))]) ⟨Nat.le_of_ble_eq_true rfl, Nat.le_of_ble_eq_true rfl⟩ kL_law_948 (xcutsR_ok (List.forall_mem_cons.mpr ⟨tL_law_1721 hk18, fun _ h => absurd h List.not_mem_nil⟩)) 30 (fun vs st h r hr => ?_)
  unfold wL_law_948 at hr
  split at hr
  · exact (eL_law_948 k18 _ _ _ _ _).symm.trans hr
  · cases hr
def rL_law_981 : List (Nat × XRow) := [(981, (.aload_n 1, 982, 1, .null, [])),
  (982, (.aload_n 0, 983, 0, .null, [])),
  (983, (.iload_n 3, 984, 3, .null, [])),
  (984, (.iconst 1, 985, 0, .int (1 : Int32), [])),
  (985, (.iadd, 986, 0, .null, [])),
  (986, (.iaload, 987, 0, .null, [])),
  (987, (.aload_n 0, 988, 0, .null, [])),
  (988, (.iload_n 3, 989, 3, .null, [])),
  (989, (.iconst 2, 990, 0, .int (2 : Int32), [])),
  (990, (.iadd, 991, 0, .null, [])),
  (991, (.iaload, 992, 0, .null, [])),
  (992, (.invokevirtual 112, 995, 112, .null, [])),
  (995, (.aload_n 2, 996, 2, .null, [])),
  (996, (.aload_n 0, 997, 0, .null, [])),
  (997, (.iload_n 3, 998, 3, .null, [])),
  (998, (.iconst 1, 999, 0, .int (1 : Int32), [])),
  (999, (.iadd, 1000, 0, .null, [])),
  (1000, (.iaload, 1001, 0, .null, [])),
  (1001, (.aload_n 0, 1002, 0, .null, [])),
  (1002, (.iload_n 3, 1003, 3, .null, [])),
  (1003, (.iconst 2, 1004, 0, .int (2 : Int32), [])),
  (1004, (.iadd, 1005, 0, .null, [])),
  (1005, (.iaload, 1006, 0, .null, [])),
  (1006, (.invokevirtual 115, 1009, 115, .null, [])),
  (1009, (.if_icmp .eq 712, 1012, 1721, .null, [])),
  (1012, (.iconst 0, 1013, 0, .int (0 : Int32), [])),
  (1013, (.ireturn, 1014, 0, .null, []))]
def mL_law_981 : List (Nat × XM) := [(112, (3, 1, some 8, FD_linesAt)), (115, (3, 1, some 9, FM_linesAt))]
abbrev BL_law_981 : XB := (rL_law_981, [], mL_law_981, 6, [])
set_option maxRecDepth 100000 in
theorem kL_law_981 : XOK BL_law_981 code 8 RL 11 416 := xok_of (cps := []) (K := []) (by decide +kernel) (fun _ h => absurd h List.not_mem_nil) (fun _ h => absurd h List.not_mem_nil) (fun _ _ _ _ h => by cases h) (List.forall_mem_cons.mpr ⟨⟨_, _, _, _, _, _, _, SD_linesAt, rfl, rfl, Nat.le_of_ble_eq_true rfl, Nat.le_of_ble_eq_true rfl, cdD_linesAt, lkL_112, imD_linesAt, slD_linesAt, inD_linesAt, pmD_linesAt⟩, List.forall_mem_cons.mpr ⟨⟨_, _, _, _, _, _, _, SM_linesAt, rfl, rfl, Nat.le_of_ble_eq_true rfl, Nat.le_of_ble_eq_true rfl, cdM_linesAt, lkL_115, imM_linesAt, slM_linesAt, inM_linesAt, pmM_linesAt⟩, fun _ h => absurd h List.not_mem_nil⟩⟩) (fun _ _ _ h => by cases h)
set_option maxRecDepth 100000 in
theorem eL_law_981 (k18 : Nat → Nat → Nat → Int32 → XH → XR) (a0 : Nat) (a1 : Nat) (a2 : Nat) (x3 : Int32) (h : XH) : qL_law_981 k18 a0 a1 a2 x3 h = xrun BL_law_981 (xfind [(1721, ([0, 1, 2, 3], wL_law_1721 (qL_law_1721 k18)))]) 30 981 (List.zip [0, 1, 2, 3] [.ref a0, .ref a1, .ref a2, .int x3]) [] h := rfl
theorem tL_law_981 {k18 : Nat → Nat → Nat → Int32 → XH → XR} (hk18 : XToR room_1 600000 7302250 code 8 RL 6 18 [0, 1, 2, 3] (wL_law_18 k18)) : XToR room_1 600000 7302250 code 8 RL 6 981 [0, 1, 2, 3] (wL_law_981 (qL_law_981 k18)) := by
  refine XToR.run (B := BL_law_981) (cut := xfind [(1721, ([0, 1, 2, 3], wL_law_1721 (qL_law_1721 k18)))]) ⟨Nat.le_of_ble_eq_true rfl, Nat.le_of_ble_eq_true rfl⟩ kL_law_981 (xcutsR_ok (List.forall_mem_cons.mpr ⟨tL_law_1721 hk18, fun _ h => absurd h List.not_mem_nil⟩)) 30 (fun vs st h r hr => ?_)
  unfold wL_law_981 at hr
  split at hr
  · exact (eL_law_981 k18 _ _ _ _ _).symm.trans hr
  · cases hr
def rL_law_1014 : List (Nat × XRow) := [(1014, (.aload_n 1, 1015, 1, .null, [])),
  (1015, (.aload_n 0, 1016, 0, .null, [])),
  (1016, (.iload_n 3, 1017, 3, .null, [])),
  (1017, (.iconst 1, 1018, 0, .int (1 : Int32), [])),
  (1018, (.iadd, 1019, 0, .null, [])),
  (1019, (.iaload, 1020, 0, .null, [])),
  (1020, (.invokevirtual 116, 1023, 116, .null, [])),
  (1023, (.aload_n 2, 1024, 2, .null, [])),
  (1024, (.aload_n 0, 1025, 0, .null, [])),
  (1025, (.iload_n 3, 1026, 3, .null, [])),
  (1026, (.iconst 1, 1027, 0, .int (1 : Int32), [])),
  (1027, (.iadd, 1028, 0, .null, [])),
  (1028, (.iaload, 1029, 0, .null, [])),
  (1029, (.invokevirtual 119, 1032, 119, .null, [])),
  (1032, (.if_icmp .eq 689, 1035, 1721, .null, [])),
  (1035, (.iconst 0, 1036, 0, .int (0 : Int32), [])),
  (1036, (.ireturn, 1037, 0, .null, []))]
def mL_law_1014 : List (Nat × XM) := [(116, (2, 1, some 8, FD_uneven)), (119, (2, 1, some 9, FM_uneven))]
abbrev BL_law_1014 : XB := (rL_law_1014, [], mL_law_1014, 6, [])
set_option maxRecDepth 100000 in
theorem kL_law_1014 : XOK BL_law_1014 code 8 RL 11 416 := xok_of (cps := []) (K := []) (by decide +kernel) (fun _ h => absurd h List.not_mem_nil) (fun _ h => absurd h List.not_mem_nil) (fun _ _ _ _ h => by cases h) (List.forall_mem_cons.mpr ⟨⟨_, _, _, _, _, _, _, SD_uneven, rfl, rfl, Nat.le_of_ble_eq_true rfl, Nat.le_of_ble_eq_true rfl, cdD_uneven, lkL_116, imD_uneven, slD_uneven, inD_uneven, pmD_uneven⟩, List.forall_mem_cons.mpr ⟨⟨_, _, _, _, _, _, _, SM_uneven, rfl, rfl, Nat.le_of_ble_eq_true rfl, Nat.le_of_ble_eq_true rfl, cdM_uneven, lkL_119, imM_uneven, slM_uneven, inM_uneven, pmM_uneven⟩, fun _ h => absurd h List.not_mem_nil⟩⟩) (fun _ _ _ h => by cases h)
set_option maxRecDepth 100000 in
theorem eL_law_1014 (k18 : Nat → Nat → Nat → Int32 → XH → XR) (a0 : Nat) (a1 : Nat) (a2 : Nat) (x3 : Int32) (h : XH) : qL_law_1014 k18 a0 a1 a2 x3 h = xrun BL_law_1014 (xfind [(1721, ([0, 1, 2, 3], wL_law_1721 (qL_law_1721 k18)))]) 20 1014 (List.zip [0, 1, 2, 3] [.ref a0, .ref a1, .ref a2, .int x3]) [] h := rfl
theorem tL_law_1014 {k18 : Nat → Nat → Nat → Int32 → XH → XR} (hk18 : XToR room_1 600000 7302250 code 8 RL 6 18 [0, 1, 2, 3] (wL_law_18 k18)) : XToR room_1 600000 7302250 code 8 RL 6 1014 [0, 1, 2, 3] (wL_law_1014 (qL_law_1014 k18)) := by
  refine XToR.run (B := BL_law_1014) (cut := xfind [(1721, ([0, 1, 2, 3], wL_law_1721 (qL_law_1721 k18)))]) ⟨Nat.le_of_ble_eq_true rfl, Nat.le_of_ble_eq_true rfl⟩ kL_law_1014 (xcutsR_ok (List.forall_mem_cons.mpr ⟨tL_law_1721 hk18, fun _ h => absurd h List.not_mem_nil⟩)) 20 (fun vs st h r hr => ?_)
  unfold wL_law_1014 at hr
  split at hr
  · exact (eL_law_1014 k18 _ _ _ _ _).symm.trans hr
  · cases hr
def rL_law_1037 : List (Nat × XRow) := [(1037, (.aload_n 1, 1038, 1, .null, [])),
  (1038, (.invokevirtual 120, 1041, 120, .null, [])),
  (1041, (.aload_n 2, 1042, 2, .null, [])),
  (1042, (.invokevirtual 123, 1045, 123, .null, [])),
  (1045, (.if_icmp .eq 676, 1048, 1721, .null, [])),
  (1048, (.iconst 0, 1049, 0, .int (0 : Int32), [])),
  (1049, (.ireturn, 1050, 0, .null, []))]
def mL_law_1037 : List (Nat × XM) := [(120, (1, 1, some 8, FD_crookedest)), (123, (1, 1, some 9, FM_crookedest))]
abbrev BL_law_1037 : XB := (rL_law_1037, [], mL_law_1037, 6, [])
set_option maxRecDepth 100000 in
theorem kL_law_1037 : XOK BL_law_1037 code 8 RL 11 416 := xok_of (cps := []) (K := []) (by decide +kernel) (fun _ h => absurd h List.not_mem_nil) (fun _ h => absurd h List.not_mem_nil) (fun _ _ _ _ h => by cases h) (List.forall_mem_cons.mpr ⟨⟨_, _, _, _, _, _, _, SD_crookedest, rfl, rfl, Nat.le_of_ble_eq_true rfl, Nat.le_of_ble_eq_true rfl, cdD_crookedest, lkL_120, imD_crookedest, slD_crookedest, inD_crookedest, pmD_crookedest⟩, List.forall_mem_cons.mpr ⟨⟨_, _, _, _, _, _, _, SM_crookedest, rfl, rfl, Nat.le_of_ble_eq_true rfl, Nat.le_of_ble_eq_true rfl, cdM_crookedest, lkL_123, imM_crookedest, slM_crookedest, inM_crookedest, pmM_crookedest⟩, fun _ h => absurd h List.not_mem_nil⟩⟩) (fun _ _ _ h => by cases h)
set_option maxRecDepth 100000 in
theorem eL_law_1037 (k18 : Nat → Nat → Nat → Int32 → XH → XR) (a0 : Nat) (a1 : Nat) (a2 : Nat) (x3 : Int32) (h : XH) : qL_law_1037 k18 a0 a1 a2 x3 h = xrun BL_law_1037 (xfind [(1721, ([0, 1, 2, 3], wL_law_1721 (qL_law_1721 k18)))]) 10 1037 (List.zip [0, 1, 2, 3] [.ref a0, .ref a1, .ref a2, .int x3]) [] h := rfl
theorem tL_law_1037 {k18 : Nat → Nat → Nat → Int32 → XH → XR} (hk18 : XToR room_1 600000 7302250 code 8 RL 6 18 [0, 1, 2, 3] (wL_law_18 k18)) : XToR room_1 600000 7302250 code 8 RL 6 1037 [0, 1, 2, 3] (wL_law_1037 (qL_law_1037 k18)) := by
  refine XToR.run (B := BL_law_1037) (cut := xfind [(1721, ([0, 1, 2, 3], wL_law_1721 (qL_law_1721 k18)))]) ⟨Nat.le_of_ble_eq_true rfl, Nat.le_of_ble_eq_true rfl⟩ kL_law_1037 (xcutsR_ok (List.forall_mem_cons.mpr ⟨tL_law_1721 hk18, fun _ h => absurd h List.not_mem_nil⟩)) 10 (fun vs st h r hr => ?_)
  unfold wL_law_1037 at hr
  split at hr
  · exact (eL_law_1037 k18 _ _ _ _ _).symm.trans hr
  · cases hr
def rL_law_1050 : List (Nat × XRow) := [(1050, (.aload_n 1, 1051, 1, .null, [])),
  (1051, (.aload_n 0, 1052, 0, .null, [])),
  (1052, (.iload_n 3, 1053, 3, .null, [])),
  (1053, (.iconst 1, 1054, 0, .int (1 : Int32), [])),
  (1054, (.iadd, 1055, 0, .null, [])),
  (1055, (.iaload, 1056, 0, .null, [])),
  (1056, (.aload_n 0, 1057, 0, .null, [])),
  (1057, (.iload_n 3, 1058, 3, .null, [])),
  (1058, (.iconst 2, 1059, 0, .int (2 : Int32), [])),
  (1059, (.iadd, 1060, 0, .null, [])),
  (1060, (.iaload, 1061, 0, .null, [])),
  (1061, (.invokevirtual 124, 1064, 124, .null, [])),
  (1064, (.aload_n 2, 1065, 2, .null, [])),
  (1065, (.aload_n 0, 1066, 0, .null, [])),
  (1066, (.iload_n 3, 1067, 3, .null, [])),
  (1067, (.iconst 1, 1068, 0, .int (1 : Int32), [])),
  (1068, (.iadd, 1069, 0, .null, [])),
  (1069, (.iaload, 1070, 0, .null, [])),
  (1070, (.aload_n 0, 1071, 0, .null, [])),
  (1071, (.iload_n 3, 1072, 3, .null, [])),
  (1072, (.iconst 2, 1073, 0, .int (2 : Int32), [])),
  (1073, (.iadd, 1074, 0, .null, [])),
  (1074, (.iaload, 1075, 0, .null, [])),
  (1075, (.invokevirtual 127, 1078, 127, .null, [])),
  (1078, (.if_icmp .eq 643, 1081, 1721, .null, [])),
  (1081, (.iconst 0, 1082, 0, .int (0 : Int32), [])),
  (1082, (.ireturn, 1083, 0, .null, []))]
def mL_law_1050 : List (Nat × XM) := [(124, (3, 1, some 8, FD_nearest)), (127, (3, 1, some 9, FM_nearest))]
abbrev BL_law_1050 : XB := (rL_law_1050, [], mL_law_1050, 6, [])
set_option maxRecDepth 100000 in
theorem kL_law_1050 : XOK BL_law_1050 code 8 RL 11 416 := xok_of (cps := []) (K := []) (by decide +kernel) (fun _ h => absurd h List.not_mem_nil) (fun _ h => absurd h List.not_mem_nil) (fun _ _ _ _ h => by cases h) (List.forall_mem_cons.mpr ⟨⟨_, _, _, _, _, _, _, SD_nearest, rfl, rfl, Nat.le_of_ble_eq_true rfl, Nat.le_of_ble_eq_true rfl, cdD_nearest, lkL_124, imD_nearest, slD_nearest, inD_nearest, pmD_nearest⟩, List.forall_mem_cons.mpr ⟨⟨_, _, _, _, _, _, _, SM_nearest, rfl, rfl, Nat.le_of_ble_eq_true rfl, Nat.le_of_ble_eq_true rfl, cdM_nearest, lkL_127, imM_nearest, slM_nearest, inM_nearest, pmM_nearest⟩, fun _ h => absurd h List.not_mem_nil⟩⟩) (fun _ _ _ h => by cases h)
set_option maxRecDepth 100000 in
theorem eL_law_1050 (k18 : Nat → Nat → Nat → Int32 → XH → XR) (a0 : Nat) (a1 : Nat) (a2 : Nat) (x3 : Int32) (h : XH) : qL_law_1050 k18 a0 a1 a2 x3 h = xrun BL_law_1050 (xfind [(1721, ([0, 1, 2, 3], wL_law_1721 (qL_law_1721 k18)))]) 30 1050 (List.zip [0, 1, 2, 3] [.ref a0, .ref a1, .ref a2, .int x3]) [] h := rfl
theorem tL_law_1050 {k18 : Nat → Nat → Nat → Int32 → XH → XR} (hk18 : XToR room_1 600000 7302250 code 8 RL 6 18 [0, 1, 2, 3] (wL_law_18 k18)) : XToR room_1 600000 7302250 code 8 RL 6 1050 [0, 1, 2, 3] (wL_law_1050 (qL_law_1050 k18)) := by
  refine XToR.run (B := BL_law_1050) (cut := xfind [(1721, ([0, 1, 2, 3], wL_law_1721 (qL_law_1721 k18)))]) ⟨Nat.le_of_ble_eq_true rfl, Nat.le_of_ble_eq_true rfl⟩ kL_law_1050 (xcutsR_ok (List.forall_mem_cons.mpr ⟨tL_law_1721 hk18, fun _ h => absurd h List.not_mem_nil⟩)) 30 (fun vs st h r hr => ?_)
  unfold wL_law_1050 at hr
  split at hr
  · exact (eL_law_1050 k18 _ _ _ _ _).symm.trans hr
  · cases hr
def rL_law_1083 : List (Nat × XRow) := [(1083, (.aload_n 1, 1084, 1, .null, [])),
  (1084, (.aload_n 0, 1085, 0, .null, [])),
  (1085, (.iload_n 3, 1086, 3, .null, [])),
  (1086, (.iconst 1, 1087, 0, .int (1 : Int32), [])),
  (1087, (.iadd, 1088, 0, .null, [])),
  (1088, (.iaload, 1089, 0, .null, [])),
  (1089, (.aload_n 0, 1090, 0, .null, [])),
  (1090, (.iload_n 3, 1091, 3, .null, [])),
  (1091, (.iconst 2, 1092, 0, .int (2 : Int32), [])),
  (1092, (.iadd, 1093, 0, .null, [])),
  (1093, (.iaload, 1094, 0, .null, [])),
  (1094, (.aload_n 0, 1095, 0, .null, [])),
  (1095, (.iload_n 3, 1096, 3, .null, [])),
  (1096, (.iconst 3, 1097, 0, .int (3 : Int32), [])),
  (1097, (.iadd, 1098, 0, .null, [])),
  (1098, (.iaload, 1099, 0, .null, [])),
  (1099, (.invokevirtual 128, 1102, 128, .null, [])),
  (1102, (.aload_n 2, 1103, 2, .null, [])),
  (1103, (.aload_n 0, 1104, 0, .null, [])),
  (1104, (.iload_n 3, 1105, 3, .null, [])),
  (1105, (.iconst 1, 1106, 0, .int (1 : Int32), [])),
  (1106, (.iadd, 1107, 0, .null, [])),
  (1107, (.iaload, 1108, 0, .null, [])),
  (1108, (.aload_n 0, 1109, 0, .null, [])),
  (1109, (.iload_n 3, 1110, 3, .null, [])),
  (1110, (.iconst 2, 1111, 0, .int (2 : Int32), [])),
  (1111, (.iadd, 1112, 0, .null, [])),
  (1112, (.iaload, 1113, 0, .null, [])),
  (1113, (.aload_n 0, 1114, 0, .null, [])),
  (1114, (.iload_n 3, 1115, 3, .null, [])),
  (1115, (.iconst 3, 1116, 0, .int (3 : Int32), [])),
  (1116, (.iadd, 1117, 0, .null, [])),
  (1117, (.iaload, 1118, 0, .null, [])),
  (1118, (.invokevirtual 131, 1121, 131, .null, [])),
  (1121, (.if_icmp .eq 600, 1124, 1721, .null, [])),
  (1124, (.iconst 0, 1125, 0, .int (0 : Int32), [])),
  (1125, (.ireturn, 1126, 0, .null, []))]
def mL_law_1083 : List (Nat × XM) := [(128, (4, 1, some 8, FD_both)), (131, (4, 1, some 9, FM_both))]
abbrev BL_law_1083 : XB := (rL_law_1083, [], mL_law_1083, 6, [])
set_option maxRecDepth 100000 in
theorem kL_law_1083 : XOK BL_law_1083 code 8 RL 11 416 := xok_of (cps := []) (K := []) (by decide +kernel) (fun _ h => absurd h List.not_mem_nil) (fun _ h => absurd h List.not_mem_nil) (fun _ _ _ _ h => by cases h) (List.forall_mem_cons.mpr ⟨⟨_, _, _, _, _, _, _, SD_both, rfl, rfl, Nat.le_of_ble_eq_true rfl, Nat.le_of_ble_eq_true rfl, cdD_both, lkL_128, imD_both, slD_both, inD_both, pmD_both⟩, List.forall_mem_cons.mpr ⟨⟨_, _, _, _, _, _, _, SM_both, rfl, rfl, Nat.le_of_ble_eq_true rfl, Nat.le_of_ble_eq_true rfl, cdM_both, lkL_131, imM_both, slM_both, inM_both, pmM_both⟩, fun _ h => absurd h List.not_mem_nil⟩⟩) (fun _ _ _ h => by cases h)
set_option maxRecDepth 100000 in
theorem eL_law_1083 (k18 : Nat → Nat → Nat → Int32 → XH → XR) (a0 : Nat) (a1 : Nat) (a2 : Nat) (x3 : Int32) (h : XH) : qL_law_1083 k18 a0 a1 a2 x3 h = xrun BL_law_1083 (xfind [(1721, ([0, 1, 2, 3], wL_law_1721 (qL_law_1721 k18)))]) 40 1083 (List.zip [0, 1, 2, 3] [.ref a0, .ref a1, .ref a2, .int x3]) [] h := rfl
theorem tL_law_1083 {k18 : Nat → Nat → Nat → Int32 → XH → XR} (hk18 : XToR room_1 600000 7302250 code 8 RL 6 18 [0, 1, 2, 3] (wL_law_18 k18)) : XToR room_1 600000 7302250 code 8 RL 6 1083 [0, 1, 2, 3] (wL_law_1083 (qL_law_1083 k18)) := by
  refine XToR.run (B := BL_law_1083) (cut := xfind [(1721, ([0, 1, 2, 3], wL_law_1721 (qL_law_1721 k18)))]) ⟨Nat.le_of_ble_eq_true rfl, Nat.le_of_ble_eq_true rfl⟩ kL_law_1083 (xcutsR_ok (List.forall_mem_cons.mpr ⟨tL_law_1721 hk18, fun _ h => absurd h List.not_mem_nil⟩)) 40 (fun vs st h r hr => ?_)
  unfold wL_law_1083 at hr
  split at hr
  · exact (eL_law_1083 k18 _ _ _ _ _).symm.trans hr
  · cases hr
def rL_law_1126 : List (Nat × XRow) := [(1126, (.aload_n 1, 1127, 1, .null, [])),
  (1127, (.aload_n 0, 1128, 0, .null, [])),
  (1128, (.iload_n 3, 1129, 3, .null, [])),
  (1129, (.iconst 1, 1130, 0, .int (1 : Int32), [])),
  (1130, (.iadd, 1131, 0, .null, [])),
  (1131, (.iaload, 1132, 0, .null, [])),
  (1132, (.invokevirtual 132, 1135, 132, .null, [])),
  (1135, (.aload_n 2, 1136, 2, .null, [])),
  (1136, (.aload_n 0, 1137, 0, .null, [])),
  (1137, (.iload_n 3, 1138, 3, .null, [])),
  (1138, (.iconst 1, 1139, 0, .int (1 : Int32), [])),
  (1139, (.iadd, 1140, 0, .null, [])),
  (1140, (.iaload, 1141, 0, .null, [])),
  (1141, (.invokevirtual 135, 1144, 135, .null, [])),
  (1144, (.if_icmp .eq 577, 1147, 1721, .null, [])),
  (1147, (.iconst 0, 1148, 0, .int (0 : Int32), [])),
  (1148, (.ireturn, 1149, 0, .null, []))]
def mL_law_1126 : List (Nat × XM) := [(132, (2, 1, some 8, FD_crossing)), (135, (2, 1, some 9, FM_crossing))]
abbrev BL_law_1126 : XB := (rL_law_1126, [], mL_law_1126, 6, [])
set_option maxRecDepth 100000 in
theorem kL_law_1126 : XOK BL_law_1126 code 8 RL 11 416 := xok_of (cps := []) (K := []) (by decide +kernel) (fun _ h => absurd h List.not_mem_nil) (fun _ h => absurd h List.not_mem_nil) (fun _ _ _ _ h => by cases h) (List.forall_mem_cons.mpr ⟨⟨_, _, _, _, _, _, _, SD_crossing, rfl, rfl, Nat.le_of_ble_eq_true rfl, Nat.le_of_ble_eq_true rfl, cdD_crossing, lkL_132, imD_crossing, slD_crossing, inD_crossing, pmD_crossing⟩, List.forall_mem_cons.mpr ⟨⟨_, _, _, _, _, _, _, SM_crossing, rfl, rfl, Nat.le_of_ble_eq_true rfl, Nat.le_of_ble_eq_true rfl, cdM_crossing, lkL_135, imM_crossing, slM_crossing, inM_crossing, pmM_crossing⟩, fun _ h => absurd h List.not_mem_nil⟩⟩) (fun _ _ _ h => by cases h)
set_option maxRecDepth 100000 in
theorem eL_law_1126 (k18 : Nat → Nat → Nat → Int32 → XH → XR) (a0 : Nat) (a1 : Nat) (a2 : Nat) (x3 : Int32) (h : XH) : qL_law_1126 k18 a0 a1 a2 x3 h = xrun BL_law_1126 (xfind [(1721, ([0, 1, 2, 3], wL_law_1721 (qL_law_1721 k18)))]) 20 1126 (List.zip [0, 1, 2, 3] [.ref a0, .ref a1, .ref a2, .int x3]) [] h := rfl
theorem tL_law_1126 {k18 : Nat → Nat → Nat → Int32 → XH → XR} (hk18 : XToR room_1 600000 7302250 code 8 RL 6 18 [0, 1, 2, 3] (wL_law_18 k18)) : XToR room_1 600000 7302250 code 8 RL 6 1126 [0, 1, 2, 3] (wL_law_1126 (qL_law_1126 k18)) := by
  refine XToR.run (B := BL_law_1126) (cut := xfind [(1721, ([0, 1, 2, 3], wL_law_1721 (qL_law_1721 k18)))]) ⟨Nat.le_of_ble_eq_true rfl, Nat.le_of_ble_eq_true rfl⟩ kL_law_1126 (xcutsR_ok (List.forall_mem_cons.mpr ⟨tL_law_1721 hk18, fun _ h => absurd h List.not_mem_nil⟩)) 20 (fun vs st h r hr => ?_)
  unfold wL_law_1126 at hr
  split at hr
  · exact (eL_law_1126 k18 _ _ _ _ _).symm.trans hr
  · cases hr
def rL_law_1149 : List (Nat × XRow) := [(1149, (.aload_n 1, 1150, 1, .null, [])),
  (1150, (.aload_n 0, 1151, 0, .null, [])),
  (1151, (.iload_n 3, 1152, 3, .null, [])),
  (1152, (.iconst 1, 1153, 0, .int (1 : Int32), [])),
  (1153, (.iadd, 1154, 0, .null, [])),
  (1154, (.iaload, 1155, 0, .null, [])),
  (1155, (.aload_n 0, 1156, 0, .null, [])),
  (1156, (.iload_n 3, 1157, 3, .null, [])),
  (1157, (.iconst 2, 1158, 0, .int (2 : Int32), [])),
  (1158, (.iadd, 1159, 0, .null, [])),
  (1159, (.iaload, 1160, 0, .null, [])),
  (1160, (.aload_n 0, 1161, 0, .null, [])),
  (1161, (.iload_n 3, 1162, 3, .null, [])),
  (1162, (.iconst 3, 1163, 0, .int (3 : Int32), [])),
  (1163, (.iadd, 1164, 0, .null, [])),
  (1164, (.iaload, 1165, 0, .null, [])),
  (1165, (.aload_n 0, 1166, 0, .null, [])),
  (1166, (.iload_n 3, 1167, 3, .null, [])),
  (1167, (.iconst 4, 1168, 0, .int (4 : Int32), [])),
  (1168, (.iadd, 1169, 0, .null, [])),
  (1169, (.iaload, 1170, 0, .null, [])),
  (1170, (.invokevirtual 136, 1173, 136, .null, [])),
  (1173, (.aload_n 2, 1174, 2, .null, [])),
  (1174, (.aload_n 0, 1175, 0, .null, [])),
  (1175, (.iload_n 3, 1176, 3, .null, [])),
  (1176, (.iconst 1, 1177, 0, .int (1 : Int32), [])),
  (1177, (.iadd, 1178, 0, .null, [])),
  (1178, (.iaload, 1179, 0, .null, [])),
  (1179, (.aload_n 0, 1180, 0, .null, [])),
  (1180, (.iload_n 3, 1181, 3, .null, [])),
  (1181, (.iconst 2, 1182, 0, .int (2 : Int32), [])),
  (1182, (.iadd, 1183, 0, .null, [])),
  (1183, (.iaload, 1184, 0, .null, [])),
  (1184, (.aload_n 0, 1185, 0, .null, [])),
  (1185, (.iload_n 3, 1186, 3, .null, [])),
  (1186, (.iconst 3, 1187, 0, .int (3 : Int32), [])),
  (1187, (.iadd, 1188, 0, .null, [])),
  (1188, (.iaload, 1189, 0, .null, [])),
  (1189, (.aload_n 0, 1190, 0, .null, [])),
  (1190, (.iload_n 3, 1191, 3, .null, [])),
  (1191, (.iconst 4, 1192, 0, .int (4 : Int32), [])),
  (1192, (.iadd, 1193, 0, .null, [])),
  (1193, (.iaload, 1194, 0, .null, [])),
  (1194, (.invokevirtual 139, 1197, 139, .null, [])),
  (1197, (.if_icmp .eq 524, 1200, 1721, .null, [])),
  (1200, (.iconst 0, 1201, 0, .int (0 : Int32), [])),
  (1201, (.ireturn, 1202, 0, .null, []))]
def mL_law_1149 : List (Nat × XM) := [(136, (5, 1, some 8, FD_rides)), (139, (5, 1, some 9, FM_rides))]
abbrev BL_law_1149 : XB := (rL_law_1149, [], mL_law_1149, 6, [])
set_option maxRecDepth 100000 in
theorem kL_law_1149 : XOK BL_law_1149 code 8 RL 11 416 := xok_of (cps := []) (K := []) (by decide +kernel) (fun _ h => absurd h List.not_mem_nil) (fun _ h => absurd h List.not_mem_nil) (fun _ _ _ _ h => by cases h) (List.forall_mem_cons.mpr ⟨⟨_, _, _, _, _, _, _, SD_rides, rfl, rfl, Nat.le_of_ble_eq_true rfl, Nat.le_of_ble_eq_true rfl, cdD_rides, lkL_136, imD_rides, slD_rides, inD_rides, pmD_rides⟩, List.forall_mem_cons.mpr ⟨⟨_, _, _, _, _, _, _, SM_rides, rfl, rfl, Nat.le_of_ble_eq_true rfl, Nat.le_of_ble_eq_true rfl, cdM_rides, lkL_139, imM_rides, slM_rides, inM_rides, pmM_rides⟩, fun _ h => absurd h List.not_mem_nil⟩⟩) (fun _ _ _ h => by cases h)
set_option maxRecDepth 100000 in
theorem eL_law_1149 (k18 : Nat → Nat → Nat → Int32 → XH → XR) (a0 : Nat) (a1 : Nat) (a2 : Nat) (x3 : Int32) (h : XH) : qL_law_1149 k18 a0 a1 a2 x3 h = xrun BL_law_1149 (xfind [(1721, ([0, 1, 2, 3], wL_law_1721 (qL_law_1721 k18)))]) 50 1149 (List.zip [0, 1, 2, 3] [.ref a0, .ref a1, .ref a2, .int x3]) [] h := rfl
theorem tL_law_1149 {k18 : Nat → Nat → Nat → Int32 → XH → XR} (hk18 : XToR room_1 600000 7302250 code 8 RL 6 18 [0, 1, 2, 3] (wL_law_18 k18)) : XToR room_1 600000 7302250 code 8 RL 6 1149 [0, 1, 2, 3] (wL_law_1149 (qL_law_1149 k18)) := by
  refine XToR.run (B := BL_law_1149) (cut := xfind [(1721, ([0, 1, 2, 3], wL_law_1721 (qL_law_1721 k18)))]) ⟨Nat.le_of_ble_eq_true rfl, Nat.le_of_ble_eq_true rfl⟩ kL_law_1149 (xcutsR_ok (List.forall_mem_cons.mpr ⟨tL_law_1721 hk18, fun _ h => absurd h List.not_mem_nil⟩)) 50 (fun vs st h r hr => ?_)
  unfold wL_law_1149 at hr
  split at hr
  · exact (eL_law_1149 k18 _ _ _ _ _).symm.trans hr
  · cases hr
def rL_law_1202 : List (Nat × XRow) := [(1202, (.aload_n 1, 1203, 1, .null, [])),
  (1203, (.aload_n 0, 1204, 0, .null, [])),
  (1204, (.iload_n 3, 1205, 3, .null, [])),
  (1205, (.iconst 1, 1206, 0, .int (1 : Int32), [])),
  (1206, (.iadd, 1207, 0, .null, [])),
  (1207, (.iaload, 1208, 0, .null, [])),
  (1208, (.aload_n 0, 1209, 0, .null, [])),
  (1209, (.iload_n 3, 1210, 3, .null, [])),
  (1210, (.iconst 2, 1211, 0, .int (2 : Int32), [])),
  (1211, (.iadd, 1212, 0, .null, [])),
  (1212, (.iaload, 1213, 0, .null, [])),
  (1213, (.aload_n 0, 1214, 0, .null, [])),
  (1214, (.iload_n 3, 1215, 3, .null, [])),
  (1215, (.iconst 3, 1216, 0, .int (3 : Int32), [])),
  (1216, (.iadd, 1217, 0, .null, [])),
  (1217, (.iaload, 1218, 0, .null, [])),
  (1218, (.aload_n 0, 1219, 0, .null, [])),
  (1219, (.iload_n 3, 1220, 3, .null, [])),
  (1220, (.iconst 4, 1221, 0, .int (4 : Int32), [])),
  (1221, (.iadd, 1222, 0, .null, [])),
  (1222, (.iaload, 1223, 0, .null, [])),
  (1223, (.invokevirtual 140, 1226, 140, .null, [])),
  (1226, (.aload_n 2, 1227, 2, .null, [])),
  (1227, (.aload_n 0, 1228, 0, .null, [])),
  (1228, (.iload_n 3, 1229, 3, .null, [])),
  (1229, (.iconst 1, 1230, 0, .int (1 : Int32), [])),
  (1230, (.iadd, 1231, 0, .null, [])),
  (1231, (.iaload, 1232, 0, .null, [])),
  (1232, (.aload_n 0, 1233, 0, .null, [])),
  (1233, (.iload_n 3, 1234, 3, .null, [])),
  (1234, (.iconst 2, 1235, 0, .int (2 : Int32), [])),
  (1235, (.iadd, 1236, 0, .null, [])),
  (1236, (.iaload, 1237, 0, .null, [])),
  (1237, (.aload_n 0, 1238, 0, .null, [])),
  (1238, (.iload_n 3, 1239, 3, .null, [])),
  (1239, (.iconst 3, 1240, 0, .int (3 : Int32), [])),
  (1240, (.iadd, 1241, 0, .null, [])),
  (1241, (.iaload, 1242, 0, .null, [])),
  (1242, (.aload_n 0, 1243, 0, .null, [])),
  (1243, (.iload_n 3, 1244, 3, .null, [])),
  (1244, (.iconst 4, 1245, 0, .int (4 : Int32), [])),
  (1245, (.iadd, 1246, 0, .null, [])),
  (1246, (.iaload, 1247, 0, .null, [])),
  (1247, (.invokevirtual 143, 1250, 143, .null, [])),
  (1250, (.if_icmp .eq 471, 1253, 1721, .null, [])),
  (1253, (.iconst 0, 1254, 0, .int (0 : Int32), [])),
  (1254, (.ireturn, 1255, 0, .null, []))]
def mL_law_1202 : List (Nat × XM) := [(140, (5, 1, some 8, FD_changes)), (143, (5, 1, some 9, FM_changes))]
abbrev BL_law_1202 : XB := (rL_law_1202, [], mL_law_1202, 6, [])
set_option maxRecDepth 100000 in
theorem kL_law_1202 : XOK BL_law_1202 code 8 RL 11 416 := xok_of (cps := []) (K := []) (by decide +kernel) (fun _ h => absurd h List.not_mem_nil) (fun _ h => absurd h List.not_mem_nil) (fun _ _ _ _ h => by cases h) (List.forall_mem_cons.mpr ⟨⟨_, _, _, _, _, _, _, SD_changes, rfl, rfl, Nat.le_of_ble_eq_true rfl, Nat.le_of_ble_eq_true rfl, cdD_changes, lkL_140, imD_changes, slD_changes, inD_changes, pmD_changes⟩, List.forall_mem_cons.mpr ⟨⟨_, _, _, _, _, _, _, SM_changes, rfl, rfl, Nat.le_of_ble_eq_true rfl, Nat.le_of_ble_eq_true rfl, cdM_changes, lkL_143, imM_changes, slM_changes, inM_changes, pmM_changes⟩, fun _ h => absurd h List.not_mem_nil⟩⟩) (fun _ _ _ h => by cases h)
set_option maxRecDepth 100000 in
theorem eL_law_1202 (k18 : Nat → Nat → Nat → Int32 → XH → XR) (a0 : Nat) (a1 : Nat) (a2 : Nat) (x3 : Int32) (h : XH) : qL_law_1202 k18 a0 a1 a2 x3 h = xrun BL_law_1202 (xfind [(1721, ([0, 1, 2, 3], wL_law_1721 (qL_law_1721 k18)))]) 50 1202 (List.zip [0, 1, 2, 3] [.ref a0, .ref a1, .ref a2, .int x3]) [] h := rfl
theorem tL_law_1202 {k18 : Nat → Nat → Nat → Int32 → XH → XR} (hk18 : XToR room_1 600000 7302250 code 8 RL 6 18 [0, 1, 2, 3] (wL_law_18 k18)) : XToR room_1 600000 7302250 code 8 RL 6 1202 [0, 1, 2, 3] (wL_law_1202 (qL_law_1202 k18)) := by
  refine XToR.run (B := BL_law_1202) (cut := xfind [(1721, ([0, 1, 2, 3], wL_law_1721 (qL_law_1721 k18)))]) ⟨Nat.le_of_ble_eq_true rfl, Nat.le_of_ble_eq_true rfl⟩ kL_law_1202 (xcutsR_ok (List.forall_mem_cons.mpr ⟨tL_law_1721 hk18, fun _ h => absurd h List.not_mem_nil⟩)) 50 (fun vs st h r hr => ?_)
  unfold wL_law_1202 at hr
  split at hr
  · exact (eL_law_1202 k18 _ _ _ _ _).symm.trans hr
  · cases hr
def rL_law_1255 : List (Nat × XRow) := [(1255, (.aload_n 1, 1256, 1, .null, [])),
  (1256, (.aload_n 0, 1257, 0, .null, [])),
  (1257, (.iload_n 3, 1258, 3, .null, [])),
  (1258, (.iconst 1, 1259, 0, .int (1 : Int32), [])),
  (1259, (.iadd, 1260, 0, .null, [])),
  (1260, (.iaload, 1261, 0, .null, [])),
  (1261, (.aload_n 0, 1262, 0, .null, [])),
  (1262, (.iload_n 3, 1263, 3, .null, [])),
  (1263, (.iconst 2, 1264, 0, .int (2 : Int32), [])),
  (1264, (.iadd, 1265, 0, .null, [])),
  (1265, (.iaload, 1266, 0, .null, [])),
  (1266, (.invokevirtual 144, 1269, 144, .null, [])),
  (1269, (.aload_n 2, 1270, 2, .null, [])),
  (1270, (.aload_n 0, 1271, 0, .null, [])),
  (1271, (.iload_n 3, 1272, 3, .null, [])),
  (1272, (.iconst 1, 1273, 0, .int (1 : Int32), [])),
  (1273, (.iadd, 1274, 0, .null, [])),
  (1274, (.iaload, 1275, 0, .null, [])),
  (1275, (.aload_n 0, 1276, 0, .null, [])),
  (1276, (.iload_n 3, 1277, 3, .null, [])),
  (1277, (.iconst 2, 1278, 0, .int (2 : Int32), [])),
  (1278, (.iadd, 1279, 0, .null, [])),
  (1279, (.iaload, 1280, 0, .null, [])),
  (1280, (.invokevirtual 147, 1283, 147, .null, [])),
  (1283, (.if_icmp .eq 438, 1286, 1721, .null, [])),
  (1286, (.iconst 0, 1287, 0, .int (0 : Int32), [])),
  (1287, (.ireturn, 1288, 0, .null, []))]
def mL_law_1255 : List (Nat × XM) := [(144, (3, 1, some 8, FD_position)), (147, (3, 1, some 9, FM_position))]
abbrev BL_law_1255 : XB := (rL_law_1255, [], mL_law_1255, 6, [])
set_option maxRecDepth 100000 in
theorem kL_law_1255 : XOK BL_law_1255 code 8 RL 11 416 := xok_of (cps := []) (K := []) (by decide +kernel) (fun _ h => absurd h List.not_mem_nil) (fun _ h => absurd h List.not_mem_nil) (fun _ _ _ _ h => by cases h) (List.forall_mem_cons.mpr ⟨⟨_, _, _, _, _, _, _, SD_position, rfl, rfl, Nat.le_of_ble_eq_true rfl, Nat.le_of_ble_eq_true rfl, cdD_position, lkL_144, imD_position, slD_position, inD_position, pmD_position⟩, List.forall_mem_cons.mpr ⟨⟨_, _, _, _, _, _, _, SM_position, rfl, rfl, Nat.le_of_ble_eq_true rfl, Nat.le_of_ble_eq_true rfl, cdM_position, lkL_147, imM_position, slM_position, inM_position, pmM_position⟩, fun _ h => absurd h List.not_mem_nil⟩⟩) (fun _ _ _ h => by cases h)
set_option maxRecDepth 100000 in
theorem eL_law_1255 (k18 : Nat → Nat → Nat → Int32 → XH → XR) (a0 : Nat) (a1 : Nat) (a2 : Nat) (x3 : Int32) (h : XH) : qL_law_1255 k18 a0 a1 a2 x3 h = xrun BL_law_1255 (xfind [(1721, ([0, 1, 2, 3], wL_law_1721 (qL_law_1721 k18)))]) 30 1255 (List.zip [0, 1, 2, 3] [.ref a0, .ref a1, .ref a2, .int x3]) [] h := rfl
theorem tL_law_1255 {k18 : Nat → Nat → Nat → Int32 → XH → XR} (hk18 : XToR room_1 600000 7302250 code 8 RL 6 18 [0, 1, 2, 3] (wL_law_18 k18)) : XToR room_1 600000 7302250 code 8 RL 6 1255 [0, 1, 2, 3] (wL_law_1255 (qL_law_1255 k18)) := by
  refine XToR.run (B := BL_law_1255) (cut := xfind [(1721, ([0, 1, 2, 3], wL_law_1721 (qL_law_1721 k18)))]) ⟨Nat.le_of_ble_eq_true rfl, Nat.le_of_ble_eq_true rfl⟩ kL_law_1255 (xcutsR_ok (List.forall_mem_cons.mpr ⟨tL_law_1721 hk18, fun _ h => absurd h List.not_mem_nil⟩)) 30 (fun vs st h r hr => ?_)
  unfold wL_law_1255 at hr
  split at hr
  · exact (eL_law_1255 k18 _ _ _ _ _).symm.trans hr
  · cases hr
def rL_law_1288 : List (Nat × XRow) := [(1288, (.aload_n 1, 1289, 1, .null, [])),
  (1289, (.aload_n 0, 1290, 0, .null, [])),
  (1290, (.iload_n 3, 1291, 3, .null, [])),
  (1291, (.iconst 1, 1292, 0, .int (1 : Int32), [])),
  (1292, (.iadd, 1293, 0, .null, [])),
  (1293, (.iaload, 1294, 0, .null, [])),
  (1294, (.aload_n 0, 1295, 0, .null, [])),
  (1295, (.iload_n 3, 1296, 3, .null, [])),
  (1296, (.iconst 2, 1297, 0, .int (2 : Int32), [])),
  (1297, (.iadd, 1298, 0, .null, [])),
  (1298, (.iaload, 1299, 0, .null, [])),
  (1299, (.aload_n 0, 1300, 0, .null, [])),
  (1300, (.iload_n 3, 1301, 3, .null, [])),
  (1301, (.iconst 3, 1302, 0, .int (3 : Int32), [])),
  (1302, (.iadd, 1303, 0, .null, [])),
  (1303, (.iaload, 1304, 0, .null, [])),
  (1304, (.invokevirtual 148, 1307, 148, .null, [])),
  (1307, (.aload_n 2, 1308, 2, .null, [])),
  (1308, (.aload_n 0, 1309, 0, .null, [])),
  (1309, (.iload_n 3, 1310, 3, .null, [])),
  (1310, (.iconst 1, 1311, 0, .int (1 : Int32), [])),
  (1311, (.iadd, 1312, 0, .null, [])),
  (1312, (.iaload, 1313, 0, .null, [])),
  (1313, (.aload_n 0, 1314, 0, .null, [])),
  (1314, (.iload_n 3, 1315, 3, .null, [])),
  (1315, (.iconst 2, 1316, 0, .int (2 : Int32), [])),
  (1316, (.iadd, 1317, 0, .null, [])),
  (1317, (.iaload, 1318, 0, .null, [])),
  (1318, (.aload_n 0, 1319, 0, .null, [])),
  (1319, (.iload_n 3, 1320, 3, .null, [])),
  (1320, (.iconst 3, 1321, 0, .int (3 : Int32), [])),
  (1321, (.iadd, 1322, 0, .null, [])),
  (1322, (.iaload, 1323, 0, .null, [])),
  (1323, (.invokevirtual 151, 1326, 151, .null, [])),
  (1326, (.if_icmp .eq 395, 1329, 1721, .null, [])),
  (1329, (.iconst 0, 1330, 0, .int (0 : Int32), [])),
  (1330, (.ireturn, 1331, 0, .null, []))]
def mL_law_1288 : List (Nat × XM) := [(148, (4, 1, some 8, FD_why)), (151, (4, 1, some 9, FM_why))]
abbrev BL_law_1288 : XB := (rL_law_1288, [], mL_law_1288, 6, [])
set_option maxRecDepth 100000 in
theorem kL_law_1288 : XOK BL_law_1288 code 8 RL 11 416 := xok_of (cps := []) (K := []) (by decide +kernel) (fun _ h => absurd h List.not_mem_nil) (fun _ h => absurd h List.not_mem_nil) (fun _ _ _ _ h => by cases h) (List.forall_mem_cons.mpr ⟨⟨_, _, _, _, _, _, _, SD_why, rfl, rfl, Nat.le_of_ble_eq_true rfl, Nat.le_of_ble_eq_true rfl, cdD_why, lkL_148, imD_why, slD_why, inD_why, pmD_why⟩, List.forall_mem_cons.mpr ⟨⟨_, _, _, _, _, _, _, SM_why, rfl, rfl, Nat.le_of_ble_eq_true rfl, Nat.le_of_ble_eq_true rfl, cdM_why, lkL_151, imM_why, slM_why, inM_why, pmM_why⟩, fun _ h => absurd h List.not_mem_nil⟩⟩) (fun _ _ _ h => by cases h)
set_option maxRecDepth 100000 in
theorem eL_law_1288 (k18 : Nat → Nat → Nat → Int32 → XH → XR) (a0 : Nat) (a1 : Nat) (a2 : Nat) (x3 : Int32) (h : XH) : qL_law_1288 k18 a0 a1 a2 x3 h = xrun BL_law_1288 (xfind [(1721, ([0, 1, 2, 3], wL_law_1721 (qL_law_1721 k18)))]) 40 1288 (List.zip [0, 1, 2, 3] [.ref a0, .ref a1, .ref a2, .int x3]) [] h := rfl
theorem tL_law_1288 {k18 : Nat → Nat → Nat → Int32 → XH → XR} (hk18 : XToR room_1 600000 7302250 code 8 RL 6 18 [0, 1, 2, 3] (wL_law_18 k18)) : XToR room_1 600000 7302250 code 8 RL 6 1288 [0, 1, 2, 3] (wL_law_1288 (qL_law_1288 k18)) := by
  refine XToR.run (B := BL_law_1288) (cut := xfind [(1721, ([0, 1, 2, 3], wL_law_1721 (qL_law_1721 k18)))]) ⟨Nat.le_of_ble_eq_true rfl, Nat.le_of_ble_eq_true rfl⟩ kL_law_1288 (xcutsR_ok (List.forall_mem_cons.mpr ⟨tL_law_1721 hk18, fun _ h => absurd h List.not_mem_nil⟩)) 40 (fun vs st h r hr => ?_)
  unfold wL_law_1288 at hr
  split at hr
  · exact (eL_law_1288 k18 _ _ _ _ _).symm.trans hr
  · cases hr
def rL_law_1331 : List (Nat × XRow) := [(1331, (.aload_n 1, 1332, 1, .null, [])),
  (1332, (.aload_n 0, 1333, 0, .null, [])),
  (1333, (.iload_n 3, 1334, 3, .null, [])),
  (1334, (.iconst 1, 1335, 0, .int (1 : Int32), [])),
  (1335, (.iadd, 1336, 0, .null, [])),
  (1336, (.iaload, 1337, 0, .null, [])),
  (1337, (.aload_n 0, 1338, 0, .null, [])),
  (1338, (.iload_n 3, 1339, 3, .null, [])),
  (1339, (.iconst 2, 1340, 0, .int (2 : Int32), [])),
  (1340, (.iadd, 1341, 0, .null, [])),
  (1341, (.iaload, 1342, 0, .null, [])),
  (1342, (.invokevirtual 152, 1345, 152, .null, [])),
  (1345, (.aload_n 2, 1346, 2, .null, [])),
  (1346, (.aload_n 0, 1347, 0, .null, [])),
  (1347, (.iload_n 3, 1348, 3, .null, [])),
  (1348, (.iconst 1, 1349, 0, .int (1 : Int32), [])),
  (1349, (.iadd, 1350, 0, .null, [])),
  (1350, (.iaload, 1351, 0, .null, [])),
  (1351, (.aload_n 0, 1352, 0, .null, [])),
  (1352, (.iload_n 3, 1353, 3, .null, [])),
  (1353, (.iconst 2, 1354, 0, .int (2 : Int32), [])),
  (1354, (.iadd, 1355, 0, .null, [])),
  (1355, (.iaload, 1356, 0, .null, [])),
  (1356, (.invokevirtual 155, 1359, 155, .null, [])),
  (1359, (.if_icmp .eq 362, 1362, 1721, .null, [])),
  (1362, (.iconst 0, 1363, 0, .int (0 : Int32), [])),
  (1363, (.ireturn, 1364, 0, .null, []))]
def mL_law_1331 : List (Nat × XM) := [(152, (3, 1, some 8, FD_free)), (155, (3, 1, some 9, FM_free))]
abbrev BL_law_1331 : XB := (rL_law_1331, [], mL_law_1331, 6, [])
set_option maxRecDepth 100000 in
theorem kL_law_1331 : XOK BL_law_1331 code 8 RL 11 416 := xok_of (cps := []) (K := []) (by decide +kernel) (fun _ h => absurd h List.not_mem_nil) (fun _ h => absurd h List.not_mem_nil) (fun _ _ _ _ h => by cases h) (List.forall_mem_cons.mpr ⟨⟨_, _, _, _, _, _, _, SD_free, rfl, rfl, Nat.le_of_ble_eq_true rfl, Nat.le_of_ble_eq_true rfl, cdD_free, lkL_152, imD_free, slD_free, inD_free, pmD_free⟩, List.forall_mem_cons.mpr ⟨⟨_, _, _, _, _, _, _, SM_free, rfl, rfl, Nat.le_of_ble_eq_true rfl, Nat.le_of_ble_eq_true rfl, cdM_free, lkL_155, imM_free, slM_free, inM_free, pmM_free⟩, fun _ h => absurd h List.not_mem_nil⟩⟩) (fun _ _ _ h => by cases h)
set_option maxRecDepth 100000 in
theorem eL_law_1331 (k18 : Nat → Nat → Nat → Int32 → XH → XR) (a0 : Nat) (a1 : Nat) (a2 : Nat) (x3 : Int32) (h : XH) : qL_law_1331 k18 a0 a1 a2 x3 h = xrun BL_law_1331 (xfind [(1721, ([0, 1, 2, 3], wL_law_1721 (qL_law_1721 k18)))]) 30 1331 (List.zip [0, 1, 2, 3] [.ref a0, .ref a1, .ref a2, .int x3]) [] h := rfl
theorem tL_law_1331 {k18 : Nat → Nat → Nat → Int32 → XH → XR} (hk18 : XToR room_1 600000 7302250 code 8 RL 6 18 [0, 1, 2, 3] (wL_law_18 k18)) : XToR room_1 600000 7302250 code 8 RL 6 1331 [0, 1, 2, 3] (wL_law_1331 (qL_law_1331 k18)) := by
  refine XToR.run (B := BL_law_1331) (cut := xfind [(1721, ([0, 1, 2, 3], wL_law_1721 (qL_law_1721 k18)))]) ⟨Nat.le_of_ble_eq_true rfl, Nat.le_of_ble_eq_true rfl⟩ kL_law_1331 (xcutsR_ok (List.forall_mem_cons.mpr ⟨tL_law_1721 hk18, fun _ h => absurd h List.not_mem_nil⟩)) 30 (fun vs st h r hr => ?_)
  unfold wL_law_1331 at hr
  split at hr
  · exact (eL_law_1331 k18 _ _ _ _ _).symm.trans hr
  · cases hr
def rL_law_1364 : List (Nat × XRow) := [(1364, (.aload_n 1, 1365, 1, .null, [])),
  (1365, (.aload_n 0, 1366, 0, .null, [])),
  (1366, (.iload_n 3, 1367, 3, .null, [])),
  (1367, (.iconst 1, 1368, 0, .int (1 : Int32), [])),
  (1368, (.iadd, 1369, 0, .null, [])),
  (1369, (.iaload, 1370, 0, .null, [])),
  (1370, (.aload_n 0, 1371, 0, .null, [])),
  (1371, (.iload_n 3, 1372, 3, .null, [])),
  (1372, (.iconst 2, 1373, 0, .int (2 : Int32), [])),
  (1373, (.iadd, 1374, 0, .null, [])),
  (1374, (.iaload, 1375, 0, .null, [])),
  (1375, (.invokevirtual 156, 1378, 156, .null, [])),
  (1378, (.aload_n 2, 1379, 2, .null, [])),
  (1379, (.aload_n 0, 1380, 0, .null, [])),
  (1380, (.iload_n 3, 1381, 3, .null, [])),
  (1381, (.iconst 1, 1382, 0, .int (1 : Int32), [])),
  (1382, (.iadd, 1383, 0, .null, [])),
  (1383, (.iaload, 1384, 0, .null, [])),
  (1384, (.aload_n 0, 1385, 0, .null, [])),
  (1385, (.iload_n 3, 1386, 3, .null, [])),
  (1386, (.iconst 2, 1387, 0, .int (2 : Int32), [])),
  (1387, (.iadd, 1388, 0, .null, [])),
  (1388, (.iaload, 1389, 0, .null, [])),
  (1389, (.invokevirtual 159, 1392, 159, .null, [])),
  (1392, (.if_icmp .eq 329, 1395, 1721, .null, [])),
  (1395, (.iconst 0, 1396, 0, .int (0 : Int32), [])),
  (1396, (.ireturn, 1397, 0, .null, []))]
def mL_law_1364 : List (Nat × XM) := [(156, (3, 1, some 8, FD_labelAt)), (159, (3, 1, some 9, FM_labelAt))]
abbrev BL_law_1364 : XB := (rL_law_1364, [], mL_law_1364, 6, [])
set_option maxRecDepth 100000 in
theorem kL_law_1364 : XOK BL_law_1364 code 8 RL 11 416 := xok_of (cps := []) (K := []) (by decide +kernel) (fun _ h => absurd h List.not_mem_nil) (fun _ h => absurd h List.not_mem_nil) (fun _ _ _ _ h => by cases h) (List.forall_mem_cons.mpr ⟨⟨_, _, _, _, _, _, _, SD_labelAt, rfl, rfl, Nat.le_of_ble_eq_true rfl, Nat.le_of_ble_eq_true rfl, cdD_labelAt, lkL_156, imD_labelAt, slD_labelAt, inD_labelAt, pmD_labelAt⟩, List.forall_mem_cons.mpr ⟨⟨_, _, _, _, _, _, _, SM_labelAt, rfl, rfl, Nat.le_of_ble_eq_true rfl, Nat.le_of_ble_eq_true rfl, cdM_labelAt, lkL_159, imM_labelAt, slM_labelAt, inM_labelAt, pmM_labelAt⟩, fun _ h => absurd h List.not_mem_nil⟩⟩) (fun _ _ _ h => by cases h)
set_option maxRecDepth 100000 in
theorem eL_law_1364 (k18 : Nat → Nat → Nat → Int32 → XH → XR) (a0 : Nat) (a1 : Nat) (a2 : Nat) (x3 : Int32) (h : XH) : qL_law_1364 k18 a0 a1 a2 x3 h = xrun BL_law_1364 (xfind [(1721, ([0, 1, 2, 3], wL_law_1721 (qL_law_1721 k18)))]) 30 1364 (List.zip [0, 1, 2, 3] [.ref a0, .ref a1, .ref a2, .int x3]) [] h := rfl
theorem tL_law_1364 {k18 : Nat → Nat → Nat → Int32 → XH → XR} (hk18 : XToR room_1 600000 7302250 code 8 RL 6 18 [0, 1, 2, 3] (wL_law_18 k18)) : XToR room_1 600000 7302250 code 8 RL 6 1364 [0, 1, 2, 3] (wL_law_1364 (qL_law_1364 k18)) := by
  refine XToR.run (B := BL_law_1364) (cut := xfind [(1721, ([0, 1, 2, 3], wL_law_1721 (qL_law_1721 k18)))]) ⟨Nat.le_of_ble_eq_true rfl, Nat.le_of_ble_eq_true rfl⟩ kL_law_1364 (xcutsR_ok (List.forall_mem_cons.mpr ⟨tL_law_1721 hk18, fun _ h => absurd h List.not_mem_nil⟩)) 30 (fun vs st h r hr => ?_)
  unfold wL_law_1364 at hr
  split at hr
  · exact (eL_law_1364 k18 _ _ _ _ _).symm.trans hr
  · cases hr
def rL_law_1397 : List (Nat × XRow) := [(1397, (.aload_n 1, 1398, 1, .null, [])),
  (1398, (.invokevirtual 160, 1401, 160, .null, [])),
  (1401, (.aload_n 2, 1402, 2, .null, [])),
  (1402, (.invokevirtual 163, 1405, 163, .null, [])),
  (1405, (.if_icmp .eq 316, 1408, 1721, .null, [])),
  (1408, (.iconst 0, 1409, 0, .int (0 : Int32), [])),
  (1409, (.ireturn, 1410, 0, .null, []))]
def mL_law_1397 : List (Nat × XM) := [(160, (1, 1, some 8, FD_stuck)), (163, (1, 1, some 9, FM_stuck))]
abbrev BL_law_1397 : XB := (rL_law_1397, [], mL_law_1397, 6, [])
set_option maxRecDepth 100000 in
theorem kL_law_1397 : XOK BL_law_1397 code 8 RL 11 416 := xok_of (cps := []) (K := []) (by decide +kernel) (fun _ h => absurd h List.not_mem_nil) (fun _ h => absurd h List.not_mem_nil) (fun _ _ _ _ h => by cases h) (List.forall_mem_cons.mpr ⟨⟨_, _, _, _, _, _, _, SD_stuck, rfl, rfl, Nat.le_of_ble_eq_true rfl, Nat.le_of_ble_eq_true rfl, cdD_stuck, lkL_160, imD_stuck, slD_stuck, inD_stuck, pmD_stuck⟩, List.forall_mem_cons.mpr ⟨⟨_, _, _, _, _, _, _, SM_stuck, rfl, rfl, Nat.le_of_ble_eq_true rfl, Nat.le_of_ble_eq_true rfl, cdM_stuck, lkL_163, imM_stuck, slM_stuck, inM_stuck, pmM_stuck⟩, fun _ h => absurd h List.not_mem_nil⟩⟩) (fun _ _ _ h => by cases h)
set_option maxRecDepth 100000 in
theorem eL_law_1397 (k18 : Nat → Nat → Nat → Int32 → XH → XR) (a0 : Nat) (a1 : Nat) (a2 : Nat) (x3 : Int32) (h : XH) : qL_law_1397 k18 a0 a1 a2 x3 h = xrun BL_law_1397 (xfind [(1721, ([0, 1, 2, 3], wL_law_1721 (qL_law_1721 k18)))]) 10 1397 (List.zip [0, 1, 2, 3] [.ref a0, .ref a1, .ref a2, .int x3]) [] h := rfl
theorem tL_law_1397 {k18 : Nat → Nat → Nat → Int32 → XH → XR} (hk18 : XToR room_1 600000 7302250 code 8 RL 6 18 [0, 1, 2, 3] (wL_law_18 k18)) : XToR room_1 600000 7302250 code 8 RL 6 1397 [0, 1, 2, 3] (wL_law_1397 (qL_law_1397 k18)) := by
  refine XToR.run (B := BL_law_1397) (cut := xfind [(1721, ([0, 1, 2, 3], wL_law_1721 (qL_law_1721 k18)))]) ⟨Nat.le_of_ble_eq_true rfl, Nat.le_of_ble_eq_true rfl⟩ kL_law_1397 (xcutsR_ok (List.forall_mem_cons.mpr ⟨tL_law_1721 hk18, fun _ h => absurd h List.not_mem_nil⟩)) 10 (fun vs st h r hr => ?_)
  unfold wL_law_1397 at hr
  split at hr
  · exact (eL_law_1397 k18 _ _ _ _ _).symm.trans hr
  · cases hr
def rL_law_1410 : List (Nat × XRow) := [(1410, (.aload_n 1, 1411, 1, .null, [])),
  (1411, (.aload_n 0, 1412, 0, .null, [])),
  (1412, (.iload_n 3, 1413, 3, .null, [])),
  (1413, (.iconst 1, 1414, 0, .int (1 : Int32), [])),
  (1414, (.iadd, 1415, 0, .null, [])),
  (1415, (.iaload, 1416, 0, .null, [])),
  (1416, (.aload_n 0, 1417, 0, .null, [])),
  (1417, (.iload_n 3, 1418, 3, .null, [])),
  (1418, (.iconst 2, 1419, 0, .int (2 : Int32), [])),
  (1419, (.iadd, 1420, 0, .null, [])),
  (1420, (.iaload, 1421, 0, .null, [])),
  (1421, (.aload_n 0, 1422, 0, .null, [])),
  (1422, (.iload_n 3, 1423, 3, .null, [])),
  (1423, (.iconst 3, 1424, 0, .int (3 : Int32), [])),
  (1424, (.iadd, 1425, 0, .null, [])),
  (1425, (.iaload, 1426, 0, .null, [])),
  (1426, (.aload_n 0, 1427, 0, .null, [])),
  (1427, (.iload_n 3, 1428, 3, .null, [])),
  (1428, (.iconst 4, 1429, 0, .int (4 : Int32), [])),
  (1429, (.iadd, 1430, 0, .null, [])),
  (1430, (.iaload, 1431, 0, .null, [])),
  (1431, (.aload_n 0, 1432, 0, .null, [])),
  (1432, (.iload_n 3, 1433, 3, .null, [])),
  (1433, (.iconst 5, 1434, 0, .int (5 : Int32), [])),
  (1434, (.iadd, 1435, 0, .null, [])),
  (1435, (.iaload, 1436, 0, .null, [])),
  (1436, (.invokevirtual 164, 1439, 164, .null, [])),
  (1439, (.aload_n 2, 1440, 2, .null, [])),
  (1440, (.aload_n 0, 1441, 0, .null, [])),
  (1441, (.iload_n 3, 1442, 3, .null, [])),
  (1442, (.iconst 1, 1443, 0, .int (1 : Int32), [])),
  (1443, (.iadd, 1444, 0, .null, [])),
  (1444, (.iaload, 1445, 0, .null, [])),
  (1445, (.aload_n 0, 1446, 0, .null, [])),
  (1446, (.iload_n 3, 1447, 3, .null, [])),
  (1447, (.iconst 2, 1448, 0, .int (2 : Int32), [])),
  (1448, (.iadd, 1449, 0, .null, [])),
  (1449, (.iaload, 1450, 0, .null, [])),
  (1450, (.aload_n 0, 1451, 0, .null, [])),
  (1451, (.iload_n 3, 1452, 3, .null, [])),
  (1452, (.iconst 3, 1453, 0, .int (3 : Int32), [])),
  (1453, (.iadd, 1454, 0, .null, [])),
  (1454, (.iaload, 1455, 0, .null, [])),
  (1455, (.aload_n 0, 1456, 0, .null, [])),
  (1456, (.iload_n 3, 1457, 3, .null, [])),
  (1457, (.iconst 4, 1458, 0, .int (4 : Int32), [])),
  (1458, (.iadd, 1459, 0, .null, [])),
  (1459, (.iaload, 1460, 0, .null, [])),
  (1460, (.aload_n 0, 1461, 0, .null, [])),
  (1461, (.iload_n 3, 1462, 3, .null, [])),
  (1462, (.iconst 5, 1463, 0, .int (5 : Int32), [])),
  (1463, (.iadd, 1464, 0, .null, [])),
  (1464, (.iaload, 1465, 0, .null, [])),
  (1465, (.invokevirtual 167, 1468, 167, .null, [])),
  (1468, (.if_icmp .eq 253, 1471, 1721, .null, [])),
  (1471, (.iconst 0, 1472, 0, .int (0 : Int32), [])),
  (1472, (.ireturn, 1473, 0, .null, []))]
def mL_law_1410 : List (Nat × XM) := [(164, (6, 1, some 8, FD_ifMoved)), (167, (6, 1, some 9, FM_ifMoved))]
abbrev BL_law_1410 : XB := (rL_law_1410, [], mL_law_1410, 6, [])
set_option maxRecDepth 100000 in
theorem kL_law_1410 : XOK BL_law_1410 code 8 RL 11 416 := xok_of (cps := []) (K := []) (by decide +kernel) (fun _ h => absurd h List.not_mem_nil) (fun _ h => absurd h List.not_mem_nil) (fun _ _ _ _ h => by cases h) (List.forall_mem_cons.mpr ⟨⟨_, _, _, _, _, _, _, SD_ifMoved, rfl, rfl, Nat.le_of_ble_eq_true rfl, Nat.le_of_ble_eq_true rfl, cdD_ifMoved, lkL_164, imD_ifMoved, slD_ifMoved, inD_ifMoved, pmD_ifMoved⟩, List.forall_mem_cons.mpr ⟨⟨_, _, _, _, _, _, _, SM_ifMoved, rfl, rfl, Nat.le_of_ble_eq_true rfl, Nat.le_of_ble_eq_true rfl, cdM_ifMoved, lkL_167, imM_ifMoved, slM_ifMoved, inM_ifMoved, pmM_ifMoved⟩, fun _ h => absurd h List.not_mem_nil⟩⟩) (fun _ _ _ h => by cases h)
set_option maxRecDepth 100000 in
theorem eL_law_1410 (k18 : Nat → Nat → Nat → Int32 → XH → XR) (a0 : Nat) (a1 : Nat) (a2 : Nat) (x3 : Int32) (h : XH) : qL_law_1410 k18 a0 a1 a2 x3 h = xrun BL_law_1410 (xfind [(1721, ([0, 1, 2, 3], wL_law_1721 (qL_law_1721 k18)))]) 60 1410 (List.zip [0, 1, 2, 3] [.ref a0, .ref a1, .ref a2, .int x3]) [] h := rfl
theorem tL_law_1410 {k18 : Nat → Nat → Nat → Int32 → XH → XR} (hk18 : XToR room_1 600000 7302250 code 8 RL 6 18 [0, 1, 2, 3] (wL_law_18 k18)) : XToR room_1 600000 7302250 code 8 RL 6 1410 [0, 1, 2, 3] (wL_law_1410 (qL_law_1410 k18)) := by
  refine XToR.run (B := BL_law_1410) (cut := xfind [(1721, ([0, 1, 2, 3], wL_law_1721 (qL_law_1721 k18)))]) ⟨Nat.le_of_ble_eq_true rfl, Nat.le_of_ble_eq_true rfl⟩ kL_law_1410 (xcutsR_ok (List.forall_mem_cons.mpr ⟨tL_law_1721 hk18, fun _ h => absurd h List.not_mem_nil⟩)) 60 (fun vs st h r hr => ?_)
  unfold wL_law_1410 at hr
  split at hr
  · exact (eL_law_1410 k18 _ _ _ _ _).symm.trans hr
  · cases hr
def rL_law_1473 : List (Nat × XRow) := [(1473, (.aload_n 1, 1474, 1, .null, [])),
  (1474, (.aload_n 0, 1475, 0, .null, [])),
  (1475, (.iload_n 3, 1476, 3, .null, [])),
  (1476, (.iconst 1, 1477, 0, .int (1 : Int32), [])),
  (1477, (.iadd, 1478, 0, .null, [])),
  (1478, (.iaload, 1479, 0, .null, [])),
  (1479, (.aload_n 0, 1480, 0, .null, [])),
  (1480, (.iload_n 3, 1481, 3, .null, [])),
  (1481, (.iconst 2, 1482, 0, .int (2 : Int32), [])),
  (1482, (.iadd, 1483, 0, .null, [])),
  (1483, (.iaload, 1484, 0, .null, [])),
  (1484, (.invokevirtual 168, 1487, 168, .null, [])),
  (1487, (.aload_n 2, 1488, 2, .null, [])),
  (1488, (.aload_n 0, 1489, 0, .null, [])),
  (1489, (.iload_n 3, 1490, 3, .null, [])),
  (1490, (.iconst 1, 1491, 0, .int (1 : Int32), [])),
  (1491, (.iadd, 1492, 0, .null, [])),
  (1492, (.iaload, 1493, 0, .null, [])),
  (1493, (.aload_n 0, 1494, 0, .null, [])),
  (1494, (.iload_n 3, 1495, 3, .null, [])),
  (1495, (.iconst 2, 1496, 0, .int (2 : Int32), [])),
  (1496, (.iadd, 1497, 0, .null, [])),
  (1497, (.iaload, 1498, 0, .null, [])),
  (1498, (.invokevirtual 171, 1501, 171, .null, [])),
  (1501, (.if_icmp .eq 220, 1504, 1721, .null, [])),
  (1504, (.iconst 0, 1505, 0, .int (0 : Int32), [])),
  (1505, (.ireturn, 1506, 0, .null, []))]
def mL_law_1473 : List (Nat × XM) := [(168, (3, 1, some 8, FD_bestMove)), (171, (3, 1, some 9, FM_bestMove))]
abbrev BL_law_1473 : XB := (rL_law_1473, [], mL_law_1473, 6, [])
set_option maxRecDepth 100000 in
theorem kL_law_1473 : XOK BL_law_1473 code 8 RL 11 416 := xok_of (cps := []) (K := []) (by decide +kernel) (fun _ h => absurd h List.not_mem_nil) (fun _ h => absurd h List.not_mem_nil) (fun _ _ _ _ h => by cases h) (List.forall_mem_cons.mpr ⟨⟨_, _, _, _, _, _, _, SD_bestMove, rfl, rfl, Nat.le_of_ble_eq_true rfl, Nat.le_of_ble_eq_true rfl, cdD_bestMove, lkL_168, imD_bestMove, slD_bestMove, inD_bestMove, pmD_bestMove⟩, List.forall_mem_cons.mpr ⟨⟨_, _, _, _, _, _, _, SM_bestMove, rfl, rfl, Nat.le_of_ble_eq_true rfl, Nat.le_of_ble_eq_true rfl, cdM_bestMove, lkL_171, imM_bestMove, slM_bestMove, inM_bestMove, pmM_bestMove⟩, fun _ h => absurd h List.not_mem_nil⟩⟩) (fun _ _ _ h => by cases h)
set_option maxRecDepth 100000 in
theorem eL_law_1473 (k18 : Nat → Nat → Nat → Int32 → XH → XR) (a0 : Nat) (a1 : Nat) (a2 : Nat) (x3 : Int32) (h : XH) : qL_law_1473 k18 a0 a1 a2 x3 h = xrun BL_law_1473 (xfind [(1721, ([0, 1, 2, 3], wL_law_1721 (qL_law_1721 k18)))]) 30 1473 (List.zip [0, 1, 2, 3] [.ref a0, .ref a1, .ref a2, .int x3]) [] h := rfl
theorem tL_law_1473 {k18 : Nat → Nat → Nat → Int32 → XH → XR} (hk18 : XToR room_1 600000 7302250 code 8 RL 6 18 [0, 1, 2, 3] (wL_law_18 k18)) : XToR room_1 600000 7302250 code 8 RL 6 1473 [0, 1, 2, 3] (wL_law_1473 (qL_law_1473 k18)) := by
  refine XToR.run (B := BL_law_1473) (cut := xfind [(1721, ([0, 1, 2, 3], wL_law_1721 (qL_law_1721 k18)))]) ⟨Nat.le_of_ble_eq_true rfl, Nat.le_of_ble_eq_true rfl⟩ kL_law_1473 (xcutsR_ok (List.forall_mem_cons.mpr ⟨tL_law_1721 hk18, fun _ h => absurd h List.not_mem_nil⟩)) 30 (fun vs st h r hr => ?_)
  unfold wL_law_1473 at hr
  split at hr
  · exact (eL_law_1473 k18 _ _ _ _ _).symm.trans hr
  · cases hr
def rL_law_1506 : List (Nat × XRow) := [(1506, (.aload_n 1, 1507, 1, .null, [])),
  (1507, (.invokevirtual 172, 1510, 172, .null, [])),
  (1510, (.aload_n 2, 1511, 2, .null, [])),
  (1511, (.invokevirtual 175, 1514, 175, .null, [])),
  (1514, (.if_icmp .eq 207, 1517, 1721, .null, [])),
  (1517, (.iconst 0, 1518, 0, .int (0 : Int32), [])),
  (1518, (.ireturn, 1519, 0, .null, []))]
def mL_law_1506 : List (Nat × XM) := [(172, (1, 1, some 8, FD_couldLabel)), (175, (1, 1, some 9, FM_couldLabel))]
abbrev BL_law_1506 : XB := (rL_law_1506, [], mL_law_1506, 6, [])
set_option maxRecDepth 100000 in
theorem kL_law_1506 : XOK BL_law_1506 code 8 RL 11 416 := xok_of (cps := []) (K := []) (by decide +kernel) (fun _ h => absurd h List.not_mem_nil) (fun _ h => absurd h List.not_mem_nil) (fun _ _ _ _ h => by cases h) (List.forall_mem_cons.mpr ⟨⟨_, _, _, _, _, _, _, SD_couldLabel, rfl, rfl, Nat.le_of_ble_eq_true rfl, Nat.le_of_ble_eq_true rfl, cdD_couldLabel, lkL_172, imD_couldLabel, slD_couldLabel, inD_couldLabel, pmD_couldLabel⟩, List.forall_mem_cons.mpr ⟨⟨_, _, _, _, _, _, _, SM_couldLabel, rfl, rfl, Nat.le_of_ble_eq_true rfl, Nat.le_of_ble_eq_true rfl, cdM_couldLabel, lkL_175, imM_couldLabel, slM_couldLabel, inM_couldLabel, pmM_couldLabel⟩, fun _ h => absurd h List.not_mem_nil⟩⟩) (fun _ _ _ h => by cases h)
set_option maxRecDepth 100000 in
theorem eL_law_1506 (k18 : Nat → Nat → Nat → Int32 → XH → XR) (a0 : Nat) (a1 : Nat) (a2 : Nat) (x3 : Int32) (h : XH) : qL_law_1506 k18 a0 a1 a2 x3 h = xrun BL_law_1506 (xfind [(1721, ([0, 1, 2, 3], wL_law_1721 (qL_law_1721 k18)))]) 10 1506 (List.zip [0, 1, 2, 3] [.ref a0, .ref a1, .ref a2, .int x3]) [] h := rfl
theorem tL_law_1506 {k18 : Nat → Nat → Nat → Int32 → XH → XR} (hk18 : XToR room_1 600000 7302250 code 8 RL 6 18 [0, 1, 2, 3] (wL_law_18 k18)) : XToR room_1 600000 7302250 code 8 RL 6 1506 [0, 1, 2, 3] (wL_law_1506 (qL_law_1506 k18)) := by
  refine XToR.run (B := BL_law_1506) (cut := xfind [(1721, ([0, 1, 2, 3], wL_law_1721 (qL_law_1721 k18)))]) ⟨Nat.le_of_ble_eq_true rfl, Nat.le_of_ble_eq_true rfl⟩ kL_law_1506 (xcutsR_ok (List.forall_mem_cons.mpr ⟨tL_law_1721 hk18, fun _ h => absurd h List.not_mem_nil⟩)) 10 (fun vs st h r hr => ?_)
  unfold wL_law_1506 at hr
  split at hr
  · exact (eL_law_1506 k18 _ _ _ _ _).symm.trans hr
  · cases hr
def rL_law_1519 : List (Nat × XRow) := [(1519, (.aload_n 1, 1520, 1, .null, [])),
  (1520, (.aload_n 0, 1521, 0, .null, [])),
  (1521, (.iload_n 3, 1522, 3, .null, [])),
  (1522, (.iconst 1, 1523, 0, .int (1 : Int32), [])),
  (1523, (.iadd, 1524, 0, .null, [])),
  (1524, (.iaload, 1525, 0, .null, [])),
  (1525, (.invokevirtual 176, 1528, 176, .null, [])),
  (1528, (.f2d, 1529, 0, .null, [])),
  (1529, (.dstore 4, 1531, 4, .null, [])),
  (1531, (.aload_n 2, 1532, 2, .null, [])),
  (1532, (.aload_n 0, 1533, 0, .null, [])),
  (1533, (.iload_n 3, 1534, 3, .null, [])),
  (1534, (.iconst 1, 1535, 0, .int (1 : Int32), [])),
  (1535, (.iadd, 1536, 0, .null, [])),
  (1536, (.iaload, 1537, 0, .null, [])),
  (1537, (.invokevirtual 180, 1540, 180, .null, [])),
  (1540, (.f2d, 1541, 0, .null, [])),
  (1541, (.dstore 6, 1543, 6, .null, [])),
  (1543, (.dload 4, 1545, 4, .null, [])),
  (1545, (.dload 6, 1547, 6, .null, [])),
  (1547, (.dcmp .l, 1548, 0, .null, [])),
  (1548, (.ifCond .eq 21, 1551, 1569, .null, [])),
  (1551, (.dload 4, 1553, 4, .null, [])),
  (1553, (.dload 4, 1555, 4, .null, [])),
  (1555, (.dcmp .l, 1556, 0, .null, [])),
  (1556, (.ifCond .eq 11, 1559, 1567, .null, [])),
  (1559, (.dload 6, 1561, 6, .null, [])),
  (1561, (.dload 6, 1563, 6, .null, [])),
  (1563, (.dcmp .l, 1564, 0, .null, [])),
  (1564, (.ifCond .ne 5, 1567, 1569, .null, [])),
  (1567, (.iconst 0, 1568, 0, .int (0 : Int32), [])),
  (1568, (.ireturn, 1569, 0, .null, [])),
  (1569, (.goto 152, 1572, 1721, .null, []))]
def mL_law_1519 : List (Nat × XM) := [(176, (2, 2, some 8, FD_meanGap)), (180, (2, 2, some 9, FM_meanGap))]
abbrev BL_law_1519 : XB := (rL_law_1519, [], mL_law_1519, 6, [])
set_option maxRecDepth 100000 in
theorem kL_law_1519 : XOK BL_law_1519 code 8 RL 11 416 := xok_of (cps := []) (K := []) (by decide +kernel) (fun _ h => absurd h List.not_mem_nil) (fun _ h => absurd h List.not_mem_nil) (fun _ _ _ _ h => by cases h) (List.forall_mem_cons.mpr ⟨⟨_, _, _, _, _, _, _, SD_meanGap, rfl, rfl, Nat.le_of_ble_eq_true rfl, Nat.le_of_ble_eq_true rfl, cdD_meanGap, lkL_176, imD_meanGap, slD_meanGap, inD_meanGap, pmD_meanGap⟩, List.forall_mem_cons.mpr ⟨⟨_, _, _, _, _, _, _, SM_meanGap, rfl, rfl, Nat.le_of_ble_eq_true rfl, Nat.le_of_ble_eq_true rfl, cdM_meanGap, lkL_180, imM_meanGap, slM_meanGap, inM_meanGap, pmM_meanGap⟩, fun _ h => absurd h List.not_mem_nil⟩⟩) (fun _ _ _ h => by cases h)
set_option maxRecDepth 100000 in
theorem eL_law_1519 (k18 : Nat → Nat → Nat → Int32 → XH → XR) (a0 : Nat) (a1 : Nat) (a2 : Nat) (x3 : Int32) (h : XH) : qL_law_1519 k18 a0 a1 a2 x3 h = xrun BL_law_1519 (xfind [(1721, ([0, 1, 2, 3], wL_law_1721 (qL_law_1721 k18)))]) 36 1519 (List.zip [0, 1, 2, 3] [.ref a0, .ref a1, .ref a2, .int x3]) [] h := rfl
theorem tL_law_1519 {k18 : Nat → Nat → Nat → Int32 → XH → XR} (hk18 : XToR room_1 600000 7302250 code 8 RL 6 18 [0, 1, 2, 3] (wL_law_18 k18)) : XToR room_1 600000 7302250 code 8 RL 6 1519 [0, 1, 2, 3] (wL_law_1519 (qL_law_1519 k18)) := by
  refine XToR.run (B := BL_law_1519) (cut := xfind [(1721, ([0, 1, 2, 3], wL_law_1721 (qL_law_1721 k18)))]) ⟨Nat.le_of_ble_eq_true rfl, Nat.le_of_ble_eq_true rfl⟩ kL_law_1519 (xcutsR_ok (List.forall_mem_cons.mpr ⟨tL_law_1721 hk18, fun _ h => absurd h List.not_mem_nil⟩)) 36 (fun vs st h r hr => ?_)
  unfold wL_law_1519 at hr
  split at hr
  · exact (eL_law_1519 k18 _ _ _ _ _).symm.trans hr
  · cases hr
def rL_law_1572 : List (Nat × XRow) := [(1572, (.aload_n 1, 1573, 1, .null, [])),
  (1573, (.invokevirtual 181, 1576, 181, .null, [])),
  (1576, (.dstore 4, 1578, 4, .null, [])),
  (1578, (.aload_n 2, 1579, 2, .null, [])),
  (1579, (.invokevirtual 185, 1582, 185, .null, [])),
  (1582, (.dstore 6, 1584, 6, .null, [])),
  (1584, (.dload 4, 1586, 4, .null, [])),
  (1586, (.dload 6, 1588, 6, .null, [])),
  (1588, (.dcmp .l, 1589, 0, .null, [])),
  (1589, (.ifCond .eq 21, 1592, 1610, .null, [])),
  (1592, (.dload 4, 1594, 4, .null, [])),
  (1594, (.dload 4, 1596, 4, .null, [])),
  (1596, (.dcmp .l, 1597, 0, .null, [])),
  (1597, (.ifCond .eq 11, 1600, 1608, .null, [])),
  (1600, (.dload 6, 1602, 6, .null, [])),
  (1602, (.dload 6, 1604, 6, .null, [])),
  (1604, (.dcmp .l, 1605, 0, .null, [])),
  (1605, (.ifCond .ne 5, 1608, 1610, .null, [])),
  (1608, (.iconst 0, 1609, 0, .int (0 : Int32), [])),
  (1609, (.ireturn, 1610, 0, .null, [])),
  (1610, (.goto 111, 1613, 1721, .null, []))]
def mL_law_1572 : List (Nat × XM) := [(181, (1, 3, some 8, FD_labelled)), (185, (1, 3, some 9, FM_labelled))]
abbrev BL_law_1572 : XB := (rL_law_1572, [], mL_law_1572, 6, [])
set_option maxRecDepth 100000 in
theorem kL_law_1572 : XOK BL_law_1572 code 8 RL 11 416 := xok_of (cps := []) (K := []) (by decide +kernel) (fun _ h => absurd h List.not_mem_nil) (fun _ h => absurd h List.not_mem_nil) (fun _ _ _ _ h => by cases h) (List.forall_mem_cons.mpr ⟨⟨_, _, _, _, _, _, _, SD_labelled, rfl, rfl, Nat.le_of_ble_eq_true rfl, Nat.le_of_ble_eq_true rfl, cdD_labelled, lkL_181, imD_labelled, slD_labelled, inD_labelled, pmD_labelled⟩, List.forall_mem_cons.mpr ⟨⟨_, _, _, _, _, _, _, SM_labelled, rfl, rfl, Nat.le_of_ble_eq_true rfl, Nat.le_of_ble_eq_true rfl, cdM_labelled, lkL_185, imM_labelled, slM_labelled, inM_labelled, pmM_labelled⟩, fun _ h => absurd h List.not_mem_nil⟩⟩) (fun _ _ _ h => by cases h)
set_option maxRecDepth 100000 in
theorem eL_law_1572 (k18 : Nat → Nat → Nat → Int32 → XH → XR) (a0 : Nat) (a1 : Nat) (a2 : Nat) (x3 : Int32) (h : XH) : qL_law_1572 k18 a0 a1 a2 x3 h = xrun BL_law_1572 (xfind [(1721, ([0, 1, 2, 3], wL_law_1721 (qL_law_1721 k18)))]) 24 1572 (List.zip [0, 1, 2, 3] [.ref a0, .ref a1, .ref a2, .int x3]) [] h := rfl
theorem tL_law_1572 {k18 : Nat → Nat → Nat → Int32 → XH → XR} (hk18 : XToR room_1 600000 7302250 code 8 RL 6 18 [0, 1, 2, 3] (wL_law_18 k18)) : XToR room_1 600000 7302250 code 8 RL 6 1572 [0, 1, 2, 3] (wL_law_1572 (qL_law_1572 k18)) := by
  refine XToR.run (B := BL_law_1572) (cut := xfind [(1721, ([0, 1, 2, 3], wL_law_1721 (qL_law_1721 k18)))]) ⟨Nat.le_of_ble_eq_true rfl, Nat.le_of_ble_eq_true rfl⟩ kL_law_1572 (xcutsR_ok (List.forall_mem_cons.mpr ⟨tL_law_1721 hk18, fun _ h => absurd h List.not_mem_nil⟩)) 24 (fun vs st h r hr => ?_)
  unfold wL_law_1572 at hr
  split at hr
  · exact (eL_law_1572 k18 _ _ _ _ _).symm.trans hr
  · cases hr
def rL_law_1613 : List (Nat × XRow) := [(1613, (.aload_n 1, 1614, 1, .null, [])),
  (1614, (.aload_n 0, 1615, 0, .null, [])),
  (1615, (.iload_n 3, 1616, 3, .null, [])),
  (1616, (.iconst 1, 1617, 0, .int (1 : Int32), [])),
  (1617, (.iadd, 1618, 0, .null, [])),
  (1618, (.iaload, 1619, 0, .null, [])),
  (1619, (.invokevirtual 186, 1622, 186, .null, [])),
  (1622, (.aload_n 2, 1623, 2, .null, [])),
  (1623, (.aload_n 0, 1624, 0, .null, [])),
  (1624, (.iload_n 3, 1625, 3, .null, [])),
  (1625, (.iconst 1, 1626, 0, .int (1 : Int32), [])),
  (1626, (.iadd, 1627, 0, .null, [])),
  (1627, (.iaload, 1628, 0, .null, [])),
  (1628, (.invokevirtual 189, 1631, 189, .null, [])),
  (1631, (.if_icmp .eq 90, 1634, 1721, .null, [])),
  (1634, (.iconst 0, 1635, 0, .int (0 : Int32), [])),
  (1635, (.ireturn, 1636, 0, .null, []))]
def mL_law_1613 : List (Nat × XM) := [(186, (2, 1, some 8, FD_named)), (189, (2, 1, some 9, FM_named))]
abbrev BL_law_1613 : XB := (rL_law_1613, [], mL_law_1613, 6, [])
set_option maxRecDepth 100000 in
theorem kL_law_1613 : XOK BL_law_1613 code 8 RL 11 416 := xok_of (cps := []) (K := []) (by decide +kernel) (fun _ h => absurd h List.not_mem_nil) (fun _ h => absurd h List.not_mem_nil) (fun _ _ _ _ h => by cases h) (List.forall_mem_cons.mpr ⟨⟨_, _, _, _, _, _, _, SD_named, rfl, rfl, Nat.le_of_ble_eq_true rfl, Nat.le_of_ble_eq_true rfl, cdD_named, lkL_186, imD_named, slD_named, inD_named, pmD_named⟩, List.forall_mem_cons.mpr ⟨⟨_, _, _, _, _, _, _, SM_named, rfl, rfl, Nat.le_of_ble_eq_true rfl, Nat.le_of_ble_eq_true rfl, cdM_named, lkL_189, imM_named, slM_named, inM_named, pmM_named⟩, fun _ h => absurd h List.not_mem_nil⟩⟩) (fun _ _ _ h => by cases h)
set_option maxRecDepth 100000 in
theorem eL_law_1613 (k18 : Nat → Nat → Nat → Int32 → XH → XR) (a0 : Nat) (a1 : Nat) (a2 : Nat) (x3 : Int32) (h : XH) : qL_law_1613 k18 a0 a1 a2 x3 h = xrun BL_law_1613 (xfind [(1721, ([0, 1, 2, 3], wL_law_1721 (qL_law_1721 k18)))]) 20 1613 (List.zip [0, 1, 2, 3] [.ref a0, .ref a1, .ref a2, .int x3]) [] h := rfl
theorem tL_law_1613 {k18 : Nat → Nat → Nat → Int32 → XH → XR} (hk18 : XToR room_1 600000 7302250 code 8 RL 6 18 [0, 1, 2, 3] (wL_law_18 k18)) : XToR room_1 600000 7302250 code 8 RL 6 1613 [0, 1, 2, 3] (wL_law_1613 (qL_law_1613 k18)) := by
  refine XToR.run (B := BL_law_1613) (cut := xfind [(1721, ([0, 1, 2, 3], wL_law_1721 (qL_law_1721 k18)))]) ⟨Nat.le_of_ble_eq_true rfl, Nat.le_of_ble_eq_true rfl⟩ kL_law_1613 (xcutsR_ok (List.forall_mem_cons.mpr ⟨tL_law_1721 hk18, fun _ h => absurd h List.not_mem_nil⟩)) 20 (fun vs st h r hr => ?_)
  unfold wL_law_1613 at hr
  split at hr
  · exact (eL_law_1613 k18 _ _ _ _ _).symm.trans hr
  · cases hr
def rL_law_1636 : List (Nat × XRow) := [(1636, (.aload_n 1, 1637, 1, .null, [])),
  (1637, (.invokevirtual 190, 1640, 190, .null, [])),
  (1640, (.aload_n 2, 1641, 2, .null, [])),
  (1641, (.invokevirtual 193, 1644, 193, .null, [])),
  (1644, (.if_icmp .eq 77, 1647, 1721, .null, [])),
  (1647, (.iconst 0, 1648, 0, .int (0 : Int32), [])),
  (1648, (.ireturn, 1649, 0, .null, []))]
def mL_law_1636 : List (Nat × XM) := [(190, (1, 1, some 8, FD_pictureLength)), (193, (1, 1, some 9, FM_pictureLength))]
abbrev BL_law_1636 : XB := (rL_law_1636, [], mL_law_1636, 6, [])
set_option maxRecDepth 100000 in
theorem kL_law_1636 : XOK BL_law_1636 code 8 RL 11 416 := xok_of (cps := []) (K := []) (by decide +kernel) (fun _ h => absurd h List.not_mem_nil) (fun _ h => absurd h List.not_mem_nil) (fun _ _ _ _ h => by cases h) (List.forall_mem_cons.mpr ⟨⟨_, _, _, _, _, _, _, SD_pictureLength, rfl, rfl, Nat.le_of_ble_eq_true rfl, Nat.le_of_ble_eq_true rfl, cdD_pictureLength, lkL_190, imD_pictureLength, slD_pictureLength, inD_pictureLength, pmD_pictureLength⟩, List.forall_mem_cons.mpr ⟨⟨_, _, _, _, _, _, _, SM_pictureLength, rfl, rfl, Nat.le_of_ble_eq_true rfl, Nat.le_of_ble_eq_true rfl, cdM_pictureLength, lkL_193, imM_pictureLength, slM_pictureLength, inM_pictureLength, pmM_pictureLength⟩, fun _ h => absurd h List.not_mem_nil⟩⟩) (fun _ _ _ h => by cases h)
set_option maxRecDepth 100000 in
theorem eL_law_1636 (k18 : Nat → Nat → Nat → Int32 → XH → XR) (a0 : Nat) (a1 : Nat) (a2 : Nat) (x3 : Int32) (h : XH) : qL_law_1636 k18 a0 a1 a2 x3 h = xrun BL_law_1636 (xfind [(1721, ([0, 1, 2, 3], wL_law_1721 (qL_law_1721 k18)))]) 10 1636 (List.zip [0, 1, 2, 3] [.ref a0, .ref a1, .ref a2, .int x3]) [] h := rfl
theorem tL_law_1636 {k18 : Nat → Nat → Nat → Int32 → XH → XR} (hk18 : XToR room_1 600000 7302250 code 8 RL 6 18 [0, 1, 2, 3] (wL_law_18 k18)) : XToR room_1 600000 7302250 code 8 RL 6 1636 [0, 1, 2, 3] (wL_law_1636 (qL_law_1636 k18)) := by
  refine XToR.run (B := BL_law_1636) (cut := xfind [(1721, ([0, 1, 2, 3], wL_law_1721 (qL_law_1721 k18)))]) ⟨Nat.le_of_ble_eq_true rfl, Nat.le_of_ble_eq_true rfl⟩ kL_law_1636 (xcutsR_ok (List.forall_mem_cons.mpr ⟨tL_law_1721 hk18, fun _ h => absurd h List.not_mem_nil⟩)) 10 (fun vs st h r hr => ?_)
  unfold wL_law_1636 at hr
  split at hr
  · exact (eL_law_1636 k18 _ _ _ _ _).symm.trans hr
  · cases hr
def rL_law_1649 : List (Nat × XRow) := [(1649, (.aload_n 1, 1650, 1, .null, [])),
  (1650, (.aload_n 0, 1651, 0, .null, [])),
  (1651, (.iload_n 3, 1652, 3, .null, [])),
  (1652, (.iconst 1, 1653, 0, .int (1 : Int32), [])),
  (1653, (.iadd, 1654, 0, .null, [])),
  (1654, (.iaload, 1655, 0, .null, [])),
  (1655, (.invokevirtual 194, 1658, 194, .null, [])),
  (1658, (.aload_n 2, 1659, 2, .null, [])),
  (1659, (.aload_n 0, 1660, 0, .null, [])),
  (1660, (.iload_n 3, 1661, 3, .null, [])),
  (1661, (.iconst 1, 1662, 0, .int (1 : Int32), [])),
  (1662, (.iadd, 1663, 0, .null, [])),
  (1663, (.iaload, 1664, 0, .null, [])),
  (1664, (.invokevirtual 197, 1667, 197, .null, [])),
  (1667, (.if_icmp .eq 54, 1670, 1721, .null, [])),
  (1670, (.iconst 0, 1671, 0, .int (0 : Int32), [])),
  (1671, (.ireturn, 1672, 0, .null, []))]
def mL_law_1649 : List (Nat × XM) := [(194, (2, 1, some 8, FD_pictureByte)), (197, (2, 1, some 9, FM_pictureByte))]
abbrev BL_law_1649 : XB := (rL_law_1649, [], mL_law_1649, 6, [])
set_option maxRecDepth 100000 in
theorem kL_law_1649 : XOK BL_law_1649 code 8 RL 11 416 := xok_of (cps := []) (K := []) (by decide +kernel) (fun _ h => absurd h List.not_mem_nil) (fun _ h => absurd h List.not_mem_nil) (fun _ _ _ _ h => by cases h) (List.forall_mem_cons.mpr ⟨⟨_, _, _, _, _, _, _, SD_pictureByte, rfl, rfl, Nat.le_of_ble_eq_true rfl, Nat.le_of_ble_eq_true rfl, cdD_pictureByte, lkL_194, imD_pictureByte, slD_pictureByte, inD_pictureByte, pmD_pictureByte⟩, List.forall_mem_cons.mpr ⟨⟨_, _, _, _, _, _, _, SM_pictureByte, rfl, rfl, Nat.le_of_ble_eq_true rfl, Nat.le_of_ble_eq_true rfl, cdM_pictureByte, lkL_197, imM_pictureByte, slM_pictureByte, inM_pictureByte, pmM_pictureByte⟩, fun _ h => absurd h List.not_mem_nil⟩⟩) (fun _ _ _ h => by cases h)
set_option maxRecDepth 100000 in
theorem eL_law_1649 (k18 : Nat → Nat → Nat → Int32 → XH → XR) (a0 : Nat) (a1 : Nat) (a2 : Nat) (x3 : Int32) (h : XH) : qL_law_1649 k18 a0 a1 a2 x3 h = xrun BL_law_1649 (xfind [(1721, ([0, 1, 2, 3], wL_law_1721 (qL_law_1721 k18)))]) 20 1649 (List.zip [0, 1, 2, 3] [.ref a0, .ref a1, .ref a2, .int x3]) [] h := rfl
theorem tL_law_1649 {k18 : Nat → Nat → Nat → Int32 → XH → XR} (hk18 : XToR room_1 600000 7302250 code 8 RL 6 18 [0, 1, 2, 3] (wL_law_18 k18)) : XToR room_1 600000 7302250 code 8 RL 6 1649 [0, 1, 2, 3] (wL_law_1649 (qL_law_1649 k18)) := by
  refine XToR.run (B := BL_law_1649) (cut := xfind [(1721, ([0, 1, 2, 3], wL_law_1721 (qL_law_1721 k18)))]) ⟨Nat.le_of_ble_eq_true rfl, Nat.le_of_ble_eq_true rfl⟩ kL_law_1649 (xcutsR_ok (List.forall_mem_cons.mpr ⟨tL_law_1721 hk18, fun _ h => absurd h List.not_mem_nil⟩)) 20 (fun vs st h r hr => ?_)
  unfold wL_law_1649 at hr
  split at hr
  · exact (eL_law_1649 k18 _ _ _ _ _).symm.trans hr
  · cases hr
def rL_law_1672 : List (Nat × XRow) := [(1672, (.aload_n 1, 1673, 1, .null, [])),
  (1673, (.invokevirtual 198, 1676, 198, .null, [])),
  (1676, (.aload_n 2, 1677, 2, .null, [])),
  (1677, (.invokevirtual 201, 1680, 201, .null, [])),
  (1680, (.if_icmp .eq 41, 1683, 1721, .null, [])),
  (1683, (.iconst 0, 1684, 0, .int (0 : Int32), [])),
  (1684, (.ireturn, 1685, 0, .null, []))]
def mL_law_1672 : List (Nat × XM) := [(198, (1, 1, some 8, FD_setupLength)), (201, (1, 1, some 9, FM_setupLength))]
abbrev BL_law_1672 : XB := (rL_law_1672, [], mL_law_1672, 6, [])
set_option maxRecDepth 100000 in
theorem kL_law_1672 : XOK BL_law_1672 code 8 RL 11 416 := xok_of (cps := []) (K := []) (by decide +kernel) (fun _ h => absurd h List.not_mem_nil) (fun _ h => absurd h List.not_mem_nil) (fun _ _ _ _ h => by cases h) (List.forall_mem_cons.mpr ⟨⟨_, _, _, _, _, _, _, SD_setupLength, rfl, rfl, Nat.le_of_ble_eq_true rfl, Nat.le_of_ble_eq_true rfl, cdD_setupLength, lkL_198, imD_setupLength, slD_setupLength, inD_setupLength, pmD_setupLength⟩, List.forall_mem_cons.mpr ⟨⟨_, _, _, _, _, _, _, SM_setupLength, rfl, rfl, Nat.le_of_ble_eq_true rfl, Nat.le_of_ble_eq_true rfl, cdM_setupLength, lkL_201, imM_setupLength, slM_setupLength, inM_setupLength, pmM_setupLength⟩, fun _ h => absurd h List.not_mem_nil⟩⟩) (fun _ _ _ h => by cases h)
set_option maxRecDepth 100000 in
theorem eL_law_1672 (k18 : Nat → Nat → Nat → Int32 → XH → XR) (a0 : Nat) (a1 : Nat) (a2 : Nat) (x3 : Int32) (h : XH) : qL_law_1672 k18 a0 a1 a2 x3 h = xrun BL_law_1672 (xfind [(1721, ([0, 1, 2, 3], wL_law_1721 (qL_law_1721 k18)))]) 10 1672 (List.zip [0, 1, 2, 3] [.ref a0, .ref a1, .ref a2, .int x3]) [] h := rfl
theorem tL_law_1672 {k18 : Nat → Nat → Nat → Int32 → XH → XR} (hk18 : XToR room_1 600000 7302250 code 8 RL 6 18 [0, 1, 2, 3] (wL_law_18 k18)) : XToR room_1 600000 7302250 code 8 RL 6 1672 [0, 1, 2, 3] (wL_law_1672 (qL_law_1672 k18)) := by
  refine XToR.run (B := BL_law_1672) (cut := xfind [(1721, ([0, 1, 2, 3], wL_law_1721 (qL_law_1721 k18)))]) ⟨Nat.le_of_ble_eq_true rfl, Nat.le_of_ble_eq_true rfl⟩ kL_law_1672 (xcutsR_ok (List.forall_mem_cons.mpr ⟨tL_law_1721 hk18, fun _ h => absurd h List.not_mem_nil⟩)) 10 (fun vs st h r hr => ?_)
  unfold wL_law_1672 at hr
  split at hr
  · exact (eL_law_1672 k18 _ _ _ _ _).symm.trans hr
  · cases hr
def rL_law_1685 : List (Nat × XRow) := [(1685, (.aload_n 1, 1686, 1, .null, [])),
  (1686, (.aload_n 0, 1687, 0, .null, [])),
  (1687, (.iload_n 3, 1688, 3, .null, [])),
  (1688, (.iconst 1, 1689, 0, .int (1 : Int32), [])),
  (1689, (.iadd, 1690, 0, .null, [])),
  (1690, (.iaload, 1691, 0, .null, [])),
  (1691, (.invokevirtual 202, 1694, 202, .null, [])),
  (1694, (.aload_n 2, 1695, 2, .null, [])),
  (1695, (.aload_n 0, 1696, 0, .null, [])),
  (1696, (.iload_n 3, 1697, 3, .null, [])),
  (1697, (.iconst 1, 1698, 0, .int (1 : Int32), [])),
  (1698, (.iadd, 1699, 0, .null, [])),
  (1699, (.iaload, 1700, 0, .null, [])),
  (1700, (.invokevirtual 205, 1703, 205, .null, [])),
  (1703, (.if_icmp .eq 18, 1706, 1721, .null, [])),
  (1706, (.iconst 0, 1707, 0, .int (0 : Int32), [])),
  (1707, (.ireturn, 1708, 0, .null, []))]
def mL_law_1685 : List (Nat × XM) := [(202, (2, 1, some 8, FD_setupByte)), (205, (2, 1, some 9, FM_setupByte))]
abbrev BL_law_1685 : XB := (rL_law_1685, [], mL_law_1685, 6, [])
set_option maxRecDepth 100000 in
theorem kL_law_1685 : XOK BL_law_1685 code 8 RL 11 416 := xok_of (cps := []) (K := []) (by decide +kernel) (fun _ h => absurd h List.not_mem_nil) (fun _ h => absurd h List.not_mem_nil) (fun _ _ _ _ h => by cases h) (List.forall_mem_cons.mpr ⟨⟨_, _, _, _, _, _, _, SD_setupByte, rfl, rfl, Nat.le_of_ble_eq_true rfl, Nat.le_of_ble_eq_true rfl, cdD_setupByte, lkL_202, imD_setupByte, slD_setupByte, inD_setupByte, pmD_setupByte⟩, List.forall_mem_cons.mpr ⟨⟨_, _, _, _, _, _, _, SM_setupByte, rfl, rfl, Nat.le_of_ble_eq_true rfl, Nat.le_of_ble_eq_true rfl, cdM_setupByte, lkL_205, imM_setupByte, slM_setupByte, inM_setupByte, pmM_setupByte⟩, fun _ h => absurd h List.not_mem_nil⟩⟩) (fun _ _ _ h => by cases h)
set_option maxRecDepth 100000 in
theorem eL_law_1685 (k18 : Nat → Nat → Nat → Int32 → XH → XR) (a0 : Nat) (a1 : Nat) (a2 : Nat) (x3 : Int32) (h : XH) : qL_law_1685 k18 a0 a1 a2 x3 h = xrun BL_law_1685 (xfind [(1721, ([0, 1, 2, 3], wL_law_1721 (qL_law_1721 k18)))]) 20 1685 (List.zip [0, 1, 2, 3] [.ref a0, .ref a1, .ref a2, .int x3]) [] h := rfl
theorem tL_law_1685 {k18 : Nat → Nat → Nat → Int32 → XH → XR} (hk18 : XToR room_1 600000 7302250 code 8 RL 6 18 [0, 1, 2, 3] (wL_law_18 k18)) : XToR room_1 600000 7302250 code 8 RL 6 1685 [0, 1, 2, 3] (wL_law_1685 (qL_law_1685 k18)) := by
  refine XToR.run (B := BL_law_1685) (cut := xfind [(1721, ([0, 1, 2, 3], wL_law_1721 (qL_law_1721 k18)))]) ⟨Nat.le_of_ble_eq_true rfl, Nat.le_of_ble_eq_true rfl⟩ kL_law_1685 (xcutsR_ok (List.forall_mem_cons.mpr ⟨tL_law_1721 hk18, fun _ h => absurd h List.not_mem_nil⟩)) 20 (fun vs st h r hr => ?_)
  unfold wL_law_1685 at hr
  split at hr
  · exact (eL_law_1685 k18 _ _ _ _ _).symm.trans hr
  · cases hr
def rL_law_1708 : List (Nat × XRow) := [(1708, (.aload_n 1, 1709, 1, .null, [])),
  (1709, (.invokevirtual 206, 1712, 206, .null, [])),
  (1712, (.aload_n 2, 1713, 2, .null, [])),
  (1713, (.invokevirtual 209, 1716, 209, .null, [])),
  (1716, (.if_icmp .eq 5, 1719, 1721, .null, [])),
  (1719, (.iconst 0, 1720, 0, .int (0 : Int32), [])),
  (1720, (.ireturn, 1721, 0, .null, []))]
def mL_law_1708 : List (Nat × XM) := [(206, (1, 1, some 8, FD_tapeLength)), (209, (1, 1, some 9, FM_tapeLength))]
abbrev BL_law_1708 : XB := (rL_law_1708, [], mL_law_1708, 6, [])
set_option maxRecDepth 100000 in
theorem kL_law_1708 : XOK BL_law_1708 code 8 RL 11 416 := xok_of (cps := []) (K := []) (by decide +kernel) (fun _ h => absurd h List.not_mem_nil) (fun _ h => absurd h List.not_mem_nil) (fun _ _ _ _ h => by cases h) (List.forall_mem_cons.mpr ⟨⟨_, _, _, _, _, _, _, SD_tapeLength, rfl, rfl, Nat.le_of_ble_eq_true rfl, Nat.le_of_ble_eq_true rfl, cdD_tapeLength, lkL_206, imD_tapeLength, slD_tapeLength, inD_tapeLength, pmD_tapeLength⟩, List.forall_mem_cons.mpr ⟨⟨_, _, _, _, _, _, _, SM_tapeLength, rfl, rfl, Nat.le_of_ble_eq_true rfl, Nat.le_of_ble_eq_true rfl, cdM_tapeLength, lkL_209, imM_tapeLength, slM_tapeLength, inM_tapeLength, pmM_tapeLength⟩, fun _ h => absurd h List.not_mem_nil⟩⟩) (fun _ _ _ h => by cases h)
set_option maxRecDepth 100000 in
theorem eL_law_1708 (k18 : Nat → Nat → Nat → Int32 → XH → XR) (a0 : Nat) (a1 : Nat) (a2 : Nat) (x3 : Int32) (h : XH) : qL_law_1708 k18 a0 a1 a2 x3 h = xrun BL_law_1708 (xfind [(1721, ([0, 1, 2, 3], wL_law_1721 (qL_law_1721 k18)))]) 10 1708 (List.zip [0, 1, 2, 3] [.ref a0, .ref a1, .ref a2, .int x3]) [] h := rfl
theorem tL_law_1708 {k18 : Nat → Nat → Nat → Int32 → XH → XR} (hk18 : XToR room_1 600000 7302250 code 8 RL 6 18 [0, 1, 2, 3] (wL_law_18 k18)) : XToR room_1 600000 7302250 code 8 RL 6 1708 [0, 1, 2, 3] (wL_law_1708 (qL_law_1708 k18)) := by
  refine XToR.run (B := BL_law_1708) (cut := xfind [(1721, ([0, 1, 2, 3], wL_law_1721 (qL_law_1721 k18)))]) ⟨Nat.le_of_ble_eq_true rfl, Nat.le_of_ble_eq_true rfl⟩ kL_law_1708 (xcutsR_ok (List.forall_mem_cons.mpr ⟨tL_law_1721 hk18, fun _ h => absurd h List.not_mem_nil⟩)) 10 (fun vs st h r hr => ?_)
  unfold wL_law_1708 at hr
  split at hr
  · exact (eL_law_1708 k18 _ _ _ _ _).symm.trans hr
  · cases hr
def rL_law_18 : List (Nat × XRow) := [(18, (.iload_n 3, 19, 3, .null, [])),
  (19, (.aload_n 0, 20, 0, .null, [])),
  (20, (.arraylength, 21, 0, .null, [])),
  (21, (.bipush 6, 23, 0, .int (6 : Int32), [])),
  (23, (.isub, 24, 0, .null, [])),
  (24, (.if_icmp .gt 1703, 27, 1727, .null, [])),
  (27, (.aload_n 0, 28, 0, .null, [])),
  (28, (.iload_n 3, 29, 3, .null, [])),
  (29, (.iaload, 30, 0, .null, [])),
  (30, (.bipush 63, 32, 0, .int (63 : Int32), [])),
  (32, (.iand, 33, 0, .null, [])),
  (33, (.tableswitch 1688 0 46 #[203, 266, 289, 302, 315, 368, 421, 454, 477, 510, 543, 586, 619, 652, 665, 688, 711, 724, 747, 780, 839, 872, 915, 948, 981, 1004, 1017, 1050, 1093, 1116, 1169, 1222, 1255, 1298, 1331, 1364, 1377, 1440, 1473, 1486, 1539, 1580, 1603, 1616, 1639, 1652, 1675], 236, 1721, .null, [((0 : Int32), 236), ((1 : Int32), 299), ((2 : Int32), 322), ((3 : Int32), 335), ((4 : Int32), 348), ((5 : Int32), 401), ((6 : Int32), 454), ((7 : Int32), 487), ((8 : Int32), 510), ((9 : Int32), 543), ((10 : Int32), 576), ((11 : Int32), 619), ((12 : Int32), 652), ((13 : Int32), 685), ((14 : Int32), 698), ((15 : Int32), 721), ((16 : Int32), 744), ((17 : Int32), 757), ((18 : Int32), 780), ((19 : Int32), 813), ((20 : Int32), 872), ((21 : Int32), 905), ((22 : Int32), 948), ((23 : Int32), 981), ((24 : Int32), 1014), ((25 : Int32), 1037), ((26 : Int32), 1050), ((27 : Int32), 1083), ((28 : Int32), 1126), ((29 : Int32), 1149), ((30 : Int32), 1202), ((31 : Int32), 1255), ((32 : Int32), 1288), ((33 : Int32), 1331), ((34 : Int32), 1364), ((35 : Int32), 1397), ((36 : Int32), 1410), ((37 : Int32), 1473), ((38 : Int32), 1506), ((39 : Int32), 1519), ((40 : Int32), 1572), ((41 : Int32), 1613), ((42 : Int32), 1636), ((43 : Int32), 1649), ((44 : Int32), 1672), ((45 : Int32), 1685), ((46 : Int32), 1708)])),
  (1727, (.iconst 1, 1728, 0, .int (1 : Int32), [])),
  (1728, (.ireturn, 1729, 0, .null, []))]
def mL_law_18 : List (Nat × XM) := []
abbrev BL_law_18 : XB := (rL_law_18, [], mL_law_18, 6, [])
set_option maxRecDepth 100000 in
theorem kL_law_18 : XOK BL_law_18 code 8 RL 11 416 := xok_of (cps := []) (K := []) (by decide +kernel) (fun _ h => absurd h List.not_mem_nil) (fun _ h => absurd h List.not_mem_nil) (fun _ _ _ _ h => by cases h) (fun _ h => absurd h List.not_mem_nil) (fun _ _ _ h => by cases h)
set_option maxRecDepth 100000 in
theorem eL_law_18_b (k18 : Nat → Nat → Nat → Int32 → XH → XR) (a0 : Nat) (a1 : Nat) (a2 : Nat) (x3 : Int32) (h : XH) : qL_law_18_b k18 a0 a1 a2 x3 h = xrun BL_law_18 (xfind [(236, ([0, 1, 2, 3], wL_law_236 (qL_law_236 k18))), (299, ([0, 1, 2, 3], wL_law_299 (qL_law_299 k18))), (322, ([0, 1, 2, 3], wL_law_322 (qL_law_322 k18))), (335, ([0, 1, 2, 3], wL_law_335 (qL_law_335 k18))), (348, ([0, 1, 2, 3], wL_law_348 (qL_law_348 k18))), (401, ([0, 1, 2, 3], wL_law_401 (qL_law_401 k18))), (454, ([0, 1, 2, 3], wL_law_454 (qL_law_454 k18))), (487, ([0, 1, 2, 3], wL_law_487 (qL_law_487 k18))), (510, ([0, 1, 2, 3], wL_law_510 (qL_law_510 k18))), (543, ([0, 1, 2, 3], wL_law_543 (qL_law_543 k18))), (576, ([0, 1, 2, 3], wL_law_576 (qL_law_576 k18))), (619, ([0, 1, 2, 3], wL_law_619 (qL_law_619 k18))), (652, ([0, 1, 2, 3], wL_law_652 (qL_law_652 k18))), (685, ([0, 1, 2, 3], wL_law_685 (qL_law_685 k18))), (698, ([0, 1, 2, 3], wL_law_698 (qL_law_698 k18))), (721, ([0, 1, 2, 3], wL_law_721 (qL_law_721 k18))), (744, ([0, 1, 2, 3], wL_law_744 (qL_law_744 k18))), (757, ([0, 1, 2, 3], wL_law_757 (qL_law_757 k18))), (780, ([0, 1, 2, 3], wL_law_780 (qL_law_780 k18))), (813, ([0, 1, 2, 3], wL_law_813 (qL_law_813 k18))), (872, ([0, 1, 2, 3], wL_law_872 (qL_law_872 k18))), (905, ([0, 1, 2, 3], wL_law_905 (qL_law_905 k18))), (948, ([0, 1, 2, 3], wL_law_948 (qL_law_948 k18))), (981, ([0, 1, 2, 3], wL_law_981 (qL_law_981 k18))), (1014, ([0, 1, 2, 3], wL_law_1014 (qL_law_1014 k18))), (1037, ([0, 1, 2, 3], wL_law_1037 (qL_law_1037 k18))), (1050, ([0, 1, 2, 3], wL_law_1050 (qL_law_1050 k18))), (1083, ([0, 1, 2, 3], wL_law_1083 (qL_law_1083 k18))), (1126, ([0, 1, 2, 3], wL_law_1126 (qL_law_1126 k18))), (1149, ([0, 1, 2, 3], wL_law_1149 (qL_law_1149 k18))), (1202, ([0, 1, 2, 3], wL_law_1202 (qL_law_1202 k18))), (1255, ([0, 1, 2, 3], wL_law_1255 (qL_law_1255 k18))), (1288, ([0, 1, 2, 3], wL_law_1288 (qL_law_1288 k18))), (1331, ([0, 1, 2, 3], wL_law_1331 (qL_law_1331 k18))), (1364, ([0, 1, 2, 3], wL_law_1364 (qL_law_1364 k18))), (1397, ([0, 1, 2, 3], wL_law_1397 (qL_law_1397 k18))), (1410, ([0, 1, 2, 3], wL_law_1410 (qL_law_1410 k18))), (1473, ([0, 1, 2, 3], wL_law_1473 (qL_law_1473 k18))), (1506, ([0, 1, 2, 3], wL_law_1506 (qL_law_1506 k18))), (1519, ([0, 1, 2, 3], wL_law_1519 (qL_law_1519 k18))), (1572, ([0, 1, 2, 3], wL_law_1572 (qL_law_1572 k18))), (1613, ([0, 1, 2, 3], wL_law_1613 (qL_law_1613 k18))), (1636, ([0, 1, 2, 3], wL_law_1636 (qL_law_1636 k18))), (1649, ([0, 1, 2, 3], wL_law_1649 (qL_law_1649 k18))), (1672, ([0, 1, 2, 3], wL_law_1672 (qL_law_1672 k18))), (1685, ([0, 1, 2, 3], wL_law_1685 (qL_law_1685 k18))), (1708, ([0, 1, 2, 3], wL_law_1708 (qL_law_1708 k18))), (1721, ([0, 1, 2, 3], wL_law_1721 (qL_law_1721 k18)))]) 17 18 (List.zip [0, 1, 2, 3] [.ref a0, .ref a1, .ref a2, .int x3]) [] h := rfl
theorem tL_law_18_b {k18 : Nat → Nat → Nat → Int32 → XH → XR} (hk18 : XToR room_1 600000 7302250 code 8 RL 6 18 [0, 1, 2, 3] (wL_law_18 k18)) : XToR room_1 600000 7302250 code 8 RL 6 18 [0, 1, 2, 3] (wL_law_18 (qL_law_18_b k18)) := by
  refine XToR.run (B := BL_law_18) (cut := xfind [(236, ([0, 1, 2, 3], wL_law_236 (qL_law_236 k18))), (299, ([0, 1, 2, 3], wL_law_299 (qL_law_299 k18))), (322, ([0, 1, 2, 3], wL_law_322 (qL_law_322 k18))), (335, ([0, 1, 2, 3], wL_law_335 (qL_law_335 k18))), (348, ([0, 1, 2, 3], wL_law_348 (qL_law_348 k18))), (401, ([0, 1, 2, 3], wL_law_401 (qL_law_401 k18))), (454, ([0, 1, 2, 3], wL_law_454 (qL_law_454 k18))), (487, ([0, 1, 2, 3], wL_law_487 (qL_law_487 k18))), (510, ([0, 1, 2, 3], wL_law_510 (qL_law_510 k18))), (543, ([0, 1, 2, 3], wL_law_543 (qL_law_543 k18))), (576, ([0, 1, 2, 3], wL_law_576 (qL_law_576 k18))), (619, ([0, 1, 2, 3], wL_law_619 (qL_law_619 k18))), (652, ([0, 1, 2, 3], wL_law_652 (qL_law_652 k18))), (685, ([0, 1, 2, 3], wL_law_685 (qL_law_685 k18))), (698, ([0, 1, 2, 3], wL_law_698 (qL_law_698 k18))), (721, ([0, 1, 2, 3], wL_law_721 (qL_law_721 k18))), (744, ([0, 1, 2, 3], wL_law_744 (qL_law_744 k18))), (757, ([0, 1, 2, 3], wL_law_757 (qL_law_757 k18))), (780, ([0, 1, 2, 3], wL_law_780 (qL_law_780 k18))), (813, ([0, 1, 2, 3], wL_law_813 (qL_law_813 k18))), (872, ([0, 1, 2, 3], wL_law_872 (qL_law_872 k18))), (905, ([0, 1, 2, 3], wL_law_905 (qL_law_905 k18))), (948, ([0, 1, 2, 3], wL_law_948 (qL_law_948 k18))), (981, ([0, 1, 2, 3], wL_law_981 (qL_law_981 k18))), (1014, ([0, 1, 2, 3], wL_law_1014 (qL_law_1014 k18))), (1037, ([0, 1, 2, 3], wL_law_1037 (qL_law_1037 k18))), (1050, ([0, 1, 2, 3], wL_law_1050 (qL_law_1050 k18))), (1083, ([0, 1, 2, 3], wL_law_1083 (qL_law_1083 k18))), (1126, ([0, 1, 2, 3], wL_law_1126 (qL_law_1126 k18))), (1149, ([0, 1, 2, 3], wL_law_1149 (qL_law_1149 k18))), (1202, ([0, 1, 2, 3], wL_law_1202 (qL_law_1202 k18))), (1255, ([0, 1, 2, 3], wL_law_1255 (qL_law_1255 k18))), (1288, ([0, 1, 2, 3], wL_law_1288 (qL_law_1288 k18))), (1331, ([0, 1, 2, 3], wL_law_1331 (qL_law_1331 k18))), (1364, ([0, 1, 2, 3], wL_law_1364 (qL_law_1364 k18))), (1397, ([0, 1, 2, 3], wL_law_1397 (qL_law_1397 k18))), (1410, ([0, 1, 2, 3], wL_law_1410 (qL_law_1410 k18))), (1473, ([0, 1, 2, 3], wL_law_1473 (qL_law_1473 k18))), (1506, ([0, 1, 2, 3], wL_law_1506 (qL_law_1506 k18))), (1519, ([0, 1, 2, 3], wL_law_1519 (qL_law_1519 k18))), (1572, ([0, 1, 2, 3], wL_law_1572 (qL_law_1572 k18))), (1613, ([0, 1, 2, 3], wL_law_1613 (qL_law_1613 k18))), (1636, ([0, 1, 2, 3], wL_law_1636 (qL_law_1636 k18))), (1649, ([0, 1, 2, 3], wL_law_1649 (qL_law_1649 k18))), (1672, ([0, 1, 2, 3], wL_law_1672 (qL_law_1672 k18))), (1685, ([0, 1, 2, 3], wL_law_1685 (qL_law_1685 k18))), (1708, ([0, 1, 2, 3], wL_law_1708 (qL_law_1708 k18))), (1721, ([0, 1, 2, 3], wL_law_1721 (qL_law_1721 k18)))]) ⟨Nat.le_of_ble_eq_true rfl, Nat.le_of_ble_eq_true rfl⟩ kL_law_18 (xcutsR_ok (List.forall_mem_cons.mpr ⟨tL_law_236 hk18, List.forall_mem_cons.mpr ⟨tL_law_299 hk18, List.forall_mem_cons.mpr ⟨tL_law_322 hk18, List.forall_mem_cons.mpr ⟨tL_law_335 hk18, List.forall_mem_cons.mpr ⟨tL_law_348 hk18, List.forall_mem_cons.mpr ⟨tL_law_401 hk18, List.forall_mem_cons.mpr ⟨tL_law_454 hk18, List.forall_mem_cons.mpr ⟨tL_law_487 hk18, List.forall_mem_cons.mpr ⟨tL_law_510 hk18, List.forall_mem_cons.mpr ⟨tL_law_543 hk18, List.forall_mem_cons.mpr ⟨tL_law_576 hk18, List.forall_mem_cons.mpr ⟨tL_law_619 hk18, List.forall_mem_cons.mpr ⟨tL_law_652 hk18, List.forall_mem_cons.mpr ⟨tL_law_685 hk18, List.forall_mem_cons.mpr ⟨tL_law_698 hk18, List.forall_mem_cons.mpr ⟨tL_law_721 hk18, List.forall_mem_cons.mpr ⟨tL_law_744 hk18, List.forall_mem_cons.mpr ⟨tL_law_757 hk18, List.forall_mem_cons.mpr ⟨tL_law_780 hk18, List.forall_mem_cons.mpr ⟨tL_law_813 hk18, List.forall_mem_cons.mpr ⟨tL_law_872 hk18, List.forall_mem_cons.mpr ⟨tL_law_905 hk18, List.forall_mem_cons.mpr ⟨tL_law_948 hk18, List.forall_mem_cons.mpr ⟨tL_law_981 hk18, List.forall_mem_cons.mpr ⟨tL_law_1014 hk18, List.forall_mem_cons.mpr ⟨tL_law_1037 hk18, List.forall_mem_cons.mpr ⟨tL_law_1050 hk18, List.forall_mem_cons.mpr ⟨tL_law_1083 hk18, List.forall_mem_cons.mpr ⟨tL_law_1126 hk18, List.forall_mem_cons.mpr ⟨tL_law_1149 hk18, List.forall_mem_cons.mpr ⟨tL_law_1202 hk18, List.forall_mem_cons.mpr ⟨tL_law_1255 hk18, List.forall_mem_cons.mpr ⟨tL_law_1288 hk18, List.forall_mem_cons.mpr ⟨tL_law_1331 hk18, List.forall_mem_cons.mpr ⟨tL_law_1364 hk18, List.forall_mem_cons.mpr ⟨tL_law_1397 hk18, List.forall_mem_cons.mpr ⟨tL_law_1410 hk18, List.forall_mem_cons.mpr ⟨tL_law_1473 hk18, List.forall_mem_cons.mpr ⟨tL_law_1506 hk18, List.forall_mem_cons.mpr ⟨tL_law_1519 hk18, List.forall_mem_cons.mpr ⟨tL_law_1572 hk18, List.forall_mem_cons.mpr ⟨tL_law_1613 hk18, List.forall_mem_cons.mpr ⟨tL_law_1636 hk18, List.forall_mem_cons.mpr ⟨tL_law_1649 hk18, List.forall_mem_cons.mpr ⟨tL_law_1672 hk18, List.forall_mem_cons.mpr ⟨tL_law_1685 hk18, List.forall_mem_cons.mpr ⟨tL_law_1708 hk18, List.forall_mem_cons.mpr ⟨tL_law_1721 hk18, fun _ h => absurd h List.not_mem_nil⟩⟩⟩⟩⟩⟩⟩⟩⟩⟩⟩⟩⟩⟩⟩⟩⟩⟩⟩⟩⟩⟩⟩⟩⟩⟩⟩⟩⟩⟩⟩⟩⟩⟩⟩⟩⟩⟩⟩⟩⟩⟩⟩⟩⟩⟩⟩⟩)) 17 (fun vs st h r hr => ?_)
  unfold wL_law_18 at hr
  split at hr
  · exact (eL_law_18_b k18 _ _ _ _ _).symm.trans hr
  · cases hr
theorem tL_law_18 : ∀ n : Nat, XToR room_1 600000 7302250 code 8 RL 6 18 [0, 1, 2, 3] (wL_law_18 (qL_law_18 n)) := by
  intro n
  induction n with
  | zero =>
    refine XToR.none fun vs st h => ?_
    unfold wL_law_18
    split <;> rfl
  | succ n ih => exact tL_law_18_b ih
