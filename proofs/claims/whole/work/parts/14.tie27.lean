-- LineDiagramModel.tapeLength()I
def rM_tapeLength : List (Nat × XRow) := [(0, (.aload_n 0, 1, 0, .null, [])),
  (1, (.getfield 211, 4, 211, .null, [])),
  (4, (.ireturn, 5, 0, .null, []))]
def mM_tapeLength : List (Nat × XM) := []
abbrev BM_tapeLength : XB := (rM_tapeLength, XFT_M, mM_tapeLength, 1, XST_M)
set_option maxRecDepth 100000 in
theorem kM_tapeLength : XOK BM_tapeLength cX9_tapeLength 1 RX9 0 0 := xok_of (cps := []) (K := XKT_M) (by decide +kernel) XKT_M_ok (fun _ h => absurd h List.not_mem_nil) XFT_M_ok (fun _ h => absurd h List.not_mem_nil) XST_M_ok
def wM_tapeLength (f : Nat → XH → XR) : List Value → List Value → XH → XR := fun vs st h => match vs, st with
  | [.ref a0], [] => f a0 h
  | _, _ => none
set_option maxRecDepth 100000 in
theorem eM_tapeLength (a0 : Nat) (h : XH) : qM_tapeLength a0 h = xrun BM_tapeLength (xfind []) 6 0 (List.zip [0] [.ref a0]) [] h := rfl
theorem tM_tapeLength : XTo cX9_tapeLength 1 RX9 1 0 0 0 [0] (wM_tapeLength (qM_tapeLength)) := by
  refine XTo.run (B := BM_tapeLength) (cut := xfind []) kM_tapeLength (xcuts_ok (fun _ h => absurd h List.not_mem_nil)) 6 (fun vs st h r hr => ?_)
  unfold wM_tapeLength at hr
  split at hr
  · exact (eM_tapeLength _ _).symm.trans hr
  · cases hr
def FM_tapeLength : List Value → XH → XR := fun vs h => match vs with
  | [.ref a0] => qM_tapeLength a0 h
  | _ => none
theorem SM_tapeLength : XS yX9_tapeLength cX9_tapeLength 1 (some .int) (xrm 0 0) FM_tapeLength := by
  refine XS.of (own := RX9) (by decide) rfl (rk := 1) rfl (tM_tapeLength) (fun vs h r hr => ?_)
  unfold FM_tapeLength at hr
  split at hr
  · exact ⟨rfl, Nat.le_of_ble_eq_true rfl, hr⟩
  · cases hr
