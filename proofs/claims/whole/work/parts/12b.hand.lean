/-- Preconditions.checkIndex, where it does not throw; its third argument is looked at by nobody -/
def qJP_checkIndex_e (x0 x1 : Int32) (h : XH) : XR := if x0 < (0 : Int32) then none else if x0 < x1 then rI x0 h else none
def qJP_checkIndex (x0 x1 : Int32) (v2 : Value) (h : XH) : XR := if v2.category = 1 then qJP_checkIndex_e x0 x1 h else none
def rJP_checkIndex : List (Nat × XRow) := [(0, (.iload_n 0, 1, 0, .null, [])), (1, (.ifCond .lt 8, 4, 9, .null, [])), (4, (.iload_n 0, 5, 0, .null, [])), (5, (.iload_n 1, 6, 1, .null, [])), (6, (.if_icmp .lt 10, 9, 16, .null, [])), (16, (.iload_n 0, 17, 0, .null, [])), (17, (.ireturn, 18, 0, .null, []))]
abbrev BJP_checkIndex : XB := (rJP_checkIndex, [], [], 1, [])
theorem kJP_checkIndex : XOK BJP_checkIndex cJ3_checkIndex_8e157 3 RJ3 0 0 := xok_of (cps := []) (K := []) (by decide +kernel) (fun _ h => absurd h List.not_mem_nil) (fun _ h => absurd h List.not_mem_nil) (fun _ _ _ _ h => by cases h) (fun _ h => absurd h List.not_mem_nil) (fun _ _ _ h => by cases h)
def wJP_checkIndex (f : Int32 → Int32 → XH → XR) : List Value → List Value → XH → XR := fun vs st h => match vs, st with
  | [.int x0, .int x1], [] => f x0 x1 h
  | _, _ => none
theorem eJP_checkIndex (x0 x1 : Int32) (h : XH) : qJP_checkIndex_e x0 x1 h = xrun BJP_checkIndex (xfind []) 10 0 (List.zip [0, 1] [.int x0, .int x1]) [] h := rfl
theorem tJP_checkIndex : XTo cJ3_checkIndex_8e157 3 RJ3 1 0 0 0 [0, 1] (wJP_checkIndex qJP_checkIndex_e) := by
  refine XTo.run (B := BJP_checkIndex) (cut := xfind []) kJP_checkIndex (xcuts_ok (fun _ h => absurd h List.not_mem_nil)) 10 (fun vs st h r hr => ?_)
  unfold wJP_checkIndex at hr
  split at hr
  · exact (eJP_checkIndex _ _ _).symm.trans hr
  · cases hr
def FJP_checkIndex : List Value → XH → XR := fun vs h => match vs with
  | [.int x0, .int x1, v2] => qJP_checkIndex x0 x1 v2 h
  | _ => none
theorem SJP_checkIndex : XS yJ3_checkIndex_8e157 cJ3_checkIndex_8e157 3 (some .int) (xrm 0 0) FJP_checkIndex := by
  refine XS.of2 (own := RJ3) (by decide) rfl (rk := 1) rfl tJP_checkIndex (fun vs h r hr => ?_)
  unfold FJP_checkIndex at hr
  split at hr
  · rename_i x0 x1 v2
    unfold qJP_checkIndex at hr
    split at hr
    · rename_i hc
      refine ⟨[.int x0, .int x1], fun q hq => ?_, ?_, hr⟩
      · rcases List.mem_cons.mp hq with rfl | hq
        · exact List.mem_cons_self
        · rcases List.mem_cons.mp hq with rfl | hq
          · exact List.mem_cons_of_mem _ List.mem_cons_self
          · cases hq
      · have h0 : ∀ x : Int32, (Value.int x).category = 1 := fun _ => rfl
        simp [lg_sl, hc, h0]
    · cases hr
  · cases hr
