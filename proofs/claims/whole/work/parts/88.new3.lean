/-! a board, travels, a parser and a history, made -/
section NEW3
variable {z y q p k n a c d x A B N i : Nat} {X Y Y' W : XH} {e e' : XE} {F : Nat → Value} {v : Value} {K : XH → XR} {sh : Sh} {P : XH → Prop} {ix : Int32}
theorem bd_obj : xobj 0 (updV (updV (updV (updV (updV (updV (updV (xdf 0) 2 (.ref (z + (300 + 1)))) 3 (.ref (z + (300 + 2)))) 4 (.ref (z + (300 + 3)))) 5 (.ref (z + (300 + 4)))) 6 (.ref (z + (300 + 5)))) 7 (.ref (z + (300 + 6)))) 8 (.ref (z + (300 + 7)))) = ent z 0 (fun _ => 0) (oB) := by
  refine congrArg (fun F => xobj 0 F) (funext fun x => ?_)
  by_cases h : x < 9
  · rcases (show x = 0 ∨ x = 1 ∨ x = 2 ∨ x = 3 ∨ x = 4 ∨ x = 5 ∨ x = 6 ∨ x = 7 ∨ x = 8 by omega) with rfl | rfl | rfl | rfl | rfl | rfl | rfl | rfl | rfl
    · exact xdf_0 0
    · exact xdf_0 1
    · rfl
    · rfl
    · rfl
    · rfl
    · rfl
    · rfl
    · rfl
  · obtain ⟨n, rfl⟩ : ∃ n, x = n + 9 := ⟨x - 9, by omega⟩
    rw [updV_ne (by omega), updV_ne (by omega), updV_ne (by omega), updV_ne (by omega), updV_ne (by omega), updV_ne (by omega), updV_ne (by omega), xdf_0]
    rfl
theorem bd_init (hA : A = z + 300) (hB : B = z + 300 + 1) : Got (qB_init A (xhs X A (xobj 0 (xdf 0))) B) (fun Y => Fr z 300 8 X Y ∧ CZ z Y 300 (oB) ∧ CZ z Y (300 + 1) (.inl (0, 1600)) ∧ CZ z Y (300 + 2) (.inl (0, 1600)) ∧ CZ z Y (300 + 3) (.inl (0, 1600)) ∧ CZ z Y (300 + 4) (.inl (0, 1600)) ∧ CZ z Y (300 + 5) (.inl (0, 1600)) ∧ CZ z Y (300 + 6) (.inl (0, 1600)) ∧ CZ z Y (300 + 7) (.inl (0, 160))) := by
  subst hA hB
  unfold qB_init
  simp (disch := omega) only [pV, xhs_eq, xhs_ne, ite_true]
  refine got_rV ⟨⟨rfl, fun b hb => ?_⟩, ?_, ?_, ?_, ?_, ?_, ?_, ?_, ?_⟩
  · simp (disch := omega) only [xhs_ne]
  · unfold CZ
    simp (disch := omega) only [xhs_eq, xhs_ne]
    exact congrArg some (bd_obj (z := z))
  · unfold CZ
    simp (disch := omega) only [xhs_eq, xhs_ne]
    rfl
  · unfold CZ
    simp (disch := omega) only [xhs_eq, xhs_ne]
    rfl
  · unfold CZ
    simp (disch := omega) only [xhs_eq, xhs_ne]
    rfl
  · unfold CZ
    simp (disch := omega) only [xhs_eq, xhs_ne]
    rfl
  · unfold CZ
    simp (disch := omega) only [xhs_eq, xhs_ne]
    rfl
  · unfold CZ
    simp (disch := omega) only [xhs_eq, xhs_ne]
    rfl
  · unfold CZ
    simp (disch := omega) only [xhs_eq, xhs_ne]
    rfl
theorem tv_obj : xobj 7 (updV (xdf 7) 0 (.ref (z + (308 + 1)))) = ent z 0 (fun _ => 0) (oTv) := by
  refine congrArg (fun F => xobj 7 F) (funext fun x => ?_)
  by_cases h : x < 1
  · obtain rfl : x = 0 := by omega
    rfl
  · obtain ⟨n, rfl⟩ : ∃ n, x = n + 1 := ⟨x - 1, by omega⟩
    rw [updV_ne (by omega), xdf_7]
    rfl
theorem tv_init (hA : A = z + 308) (hB : B = z + 308 + 1) : Got (qTv_init A (xhs X A (xobj 7 (xdf 7))) B) (fun Y => Fr z 308 2 X Y ∧ CZ z Y 308 (oTv) ∧ CZ z Y (308 + 1) (.inl (0, 160))) := by
  subst hA hB
  unfold qTv_init
  simp (disch := omega) only [pV, xhs_eq, xhs_ne, ite_true]
  refine got_rV ⟨⟨rfl, fun b hb => ?_⟩, ?_, ?_⟩
  · simp (disch := omega) only [xhs_ne]
  · unfold CZ
    simp (disch := omega) only [xhs_eq, xhs_ne]
    exact congrArg some (tv_obj (z := z))
  · unfold CZ
    simp (disch := omega) only [xhs_eq, xhs_ne]
    rfl
theorem ps_obj : xobj 4 (xdf 4) = ent z 0 (fun _ => 0) (oPs) := by
  refine congrArg (fun F => xobj 4 F) (funext fun x => ?_)
  by_cases h : x < 5
  · rcases (show x = 0 ∨ x = 1 ∨ x = 2 ∨ x = 3 ∨ x = 4 by omega) with rfl | rfl | rfl | rfl | rfl
    · exact xdf_4 0
    · exact xdf_4 1
    · exact xdf_4 2
    · exact xdf_4 3
    · exact xdf_4 4
  · obtain ⟨n, rfl⟩ : ∃ n, x = n + 5 := ⟨x - 5, by omega⟩
    rw [xdf_4]
    rfl
theorem ps_init (hA : A = z + 5) (hB : B = z + 5 + 1) : Got (qPs_init A (xhs X A (xobj 4 (xdf 4))) B) (fun Y => Fr z 5 1 X Y ∧ CZ z Y 5 (oPs)) := by
  subst hA hB
  unfold qPs_init
  refine got_rV ⟨⟨rfl, fun b hb => ?_⟩, ?_⟩
  · simp (disch := omega) only [xhs_ne]
  · unfold CZ
    simp (disch := omega) only [xhs_eq, xhs_ne]
    exact congrArg some (ps_obj (z := z))
theorem hs_obj : xobj 1 (updV (xdf 1) 2 (.ref (z + (66 + 1)))) = ent z 0 (fun _ => 0) (oH) := by
  refine congrArg (fun F => xobj 1 F) (funext fun x => ?_)
  by_cases h : x < 3
  · rcases (show x = 0 ∨ x = 1 ∨ x = 2 by omega) with rfl | rfl | rfl
    · exact xdf_1 0
    · exact xdf_1 1
    · rfl
  · obtain ⟨n, rfl⟩ : ∃ n, x = n + 3 := ⟨x - 3, by omega⟩
    rw [updV_ne (by omega), xdf_1]
    rfl
def FHs (z : Nat) : Nat → Value := updV (xdf 1) 2 (.ref (z + (66 + 1)))
def Hs (z : Nat) (X : XH) (i : Nat) (Y : XH) : Prop := Fr z 66 234 X Y ∧ Y.2 (z + 66) = some (xobj 1 (FHs z)) ∧ (∃ f, Y.2 (z + 67) = some (xref 5 8 f) ∧ ∀ j, f j = if j < i then some (z + (68 + 29 * j)) else none) ∧ ∀ j, j < i → PlC z (68 + 29 * j) Y
theorem PlC_0 (h : PlC z p Y) : ∃ F, Y.2 (z + p) = some (xobj 5 F) := by
  have := h 0 _ rfl
  unfold CZ at this
  rw [Nat.add_zero] at this
  exact ⟨_, this⟩
theorem PlC_xhs (h : PlC z p Y) (ha : a < z + p ∨ z + p + 29 ≤ a) : PlC z p (xhs Y a e) := fun j sh hj => by
  have := plT_lt hj
  have x := h j sh hj
  unfold CZ at *
  rw [xhs_ne (by omega)]
  exact x
theorem hs_step (hY : Hs z X i Y) (hi8 : i < 8) (hA : A = z + (68 + 29 * i)) (hB : B = z + (68 + 29 * i) + 1) (hix : ix = J (i : Int)) (hK : ∀ Y', Hs z X (i + 1) Y' → Got (K Y') P) : Got (gR Y (z + 66) 1 2 (fun a => bV (qP_init A (xhs Y A (xobj 5 (xdf 5))) B) (fun h5 => wrR h5 a ix A (fun h6 => K h6)))) P := by
  obtain ⟨h1, h2, ⟨f, h3, h4⟩, h5⟩ := hY
  rw [gR_some (r := z + 67) h2 rfl]
  refine got_bV (p_init (X := Y) hA hB) fun Y1 hY1 => ?_
  obtain ⟨f1, c0⟩ := hY1
  have x1 : Y1.2 (z + 67) = some (xref 5 8 f) := by rw [f1.2 _ (by omega)]; exact h3
  have x0 : Y1.2 (z + 66) = some (xobj 1 (FHs z)) := by rw [f1.2 _ (by omega)]; exact h2
  obtain ⟨F0, hF0⟩ := PlC_0 c0
  rw [hix, wrR_some (F := F0) x1 hi8 (by omega) (by rw [hA]; exact hF0)]
  refine hK _ ⟨⟨by rw [xhs_1, f1.1, h1.1], fun b hb => by rw [xhs_ne (by omega), f1.2 b (by omega), h1.2 b hb]⟩, by rw [xhs_ne (by omega)]; exact x0, ⟨_, xhs_eq rfl, fun j => ?_⟩, fun j hj => ?_⟩
  · unfold va_up
    by_cases e : j = i
    · rw [if_pos e, if_pos (by omega), e, hA]
    · rw [if_neg e, h4 j]
      by_cases q : j < i
      · rw [if_pos q, if_pos (by omega)]
      · rw [if_neg q, if_neg (by omega)]
  · by_cases e : j = i
    · rw [e]
      exact PlC_xhs c0 (by omega)
    · exact PlC_xhs (PlC_fr f1 (by omega) (h5 j (by omega))) (by omega)
theorem h_init (hA : A = z + 66) (hB : B = z + 66 + 1) : Got (qH_init A (xhs X A (xobj 1 (xdf 1))) B) (fun Y => Fr z 66 234 X Y ∧ CZ z Y 66 oH ∧ CZ z Y 67 (.inr (.inl (5, 8, fun i => 68 + 29 * i))) ∧ ∀ j, j < 8 → PlC z (68 + 29 * j) Y) := by
  subst hA hB
  unfold qH_init
  have e1 : (xhs (xhs X (z + 66) (xobj 1 (xdf 1))) (z + 66 + 1) (xref 5 8 (fun _ => none))).2 (z + 66) = some (xobj 1 (xdf 1)) := by
    rw [xhs_ne (by omega), xhs_eq rfl]
  rw [pV_some e1]
  have P0 : Hs z X 0 (xhs (xhs (xhs X (z + 66) (xobj 1 (xdf 1))) (z + 66 + 1) (xref 5 8 (fun _ => none))) (z + 66) (xobj 1 (updV (xdf 1) 2 (.ref (z + 66 + 1))))) := by
    refine ⟨⟨rfl, fun b hb => ?_⟩, xhs_eq rfl, ⟨fun _ => none, ?_, fun j => (if_neg (by omega)).symm⟩, fun j hj => absurd hj (by omega)⟩
    · rw [xhs_ne (by omega), xhs_ne (by omega), xhs_ne (by omega)]
    · rw [xhs_ne (by omega), xhs_eq (by omega)]
  refine hs_step (i := 0) P0 (by omega) (by omega) (by omega) rfl fun Y10 P1 => ?_
  refine hs_step (i := 1) P1 (by omega) (by omega) (by omega) rfl fun Y11 P2 => ?_
  refine hs_step (i := 2) P2 (by omega) (by omega) (by omega) rfl fun Y12 P3 => ?_
  refine hs_step (i := 3) P3 (by omega) (by omega) (by omega) rfl fun Y13 P4 => ?_
  refine hs_step (i := 4) P4 (by omega) (by omega) (by omega) rfl fun Y14 P5 => ?_
  refine hs_step (i := 5) P5 (by omega) (by omega) (by omega) rfl fun Y15 P6 => ?_
  refine hs_step (i := 6) P6 (by omega) (by omega) (by omega) rfl fun Y16 P7 => ?_
  refine hs_step (i := 7) P7 (by omega) (by omega) (by omega) rfl fun Y17 P8 => ?_
  obtain ⟨h1, h2, ⟨f, h3, h4⟩, h5⟩ := P8
  refine got_rV ⟨h1, ?_, ?_, h5⟩
  · unfold CZ
    rw [h2]
    exact congrArg some (hs_obj (z := z))
  · unfold CZ
    rw [h3]
    refine congrArg some (congrArg (fun f => xref 5 8 f) (funext fun i => ?_))
    rw [h4 i]
end NEW3
