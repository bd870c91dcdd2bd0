/-! a plan and a history, made -/
section NEW2
variable {z y q p k n a c d x A B N i : Nat} {X Y Y' W : XH} {e e' : XE} {F : Nat → Value} {v : Value} {K : XH → XR} {sh : Sh} {P : XH → Prop} {ix : Int32}
theorem pl_obj : xobj 5 (updV (updV (xdf 5) 4 (.ref (z + (q + 1)))) 5 (.ref (z + (q + 2)))) = ent z 0 (fun _ => 0) (oPl q) := by
  refine congrArg (fun F => xobj 5 F) (funext fun x => ?_)
  by_cases h : x < 6
  · rcases (show x = 0 ∨ x = 1 ∨ x = 2 ∨ x = 3 ∨ x = 4 ∨ x = 5 by omega) with rfl | rfl | rfl | rfl | rfl | rfl
    · exact xdf_5 0
    · exact xdf_5 1
    · exact xdf_5 2
    · exact xdf_5 3
    · rfl
    · rfl
  · obtain ⟨n, rfl⟩ : ∃ n, x = n + 6 := ⟨x - 6, by omega⟩
    rw [updV_ne (by omega), updV_ne (by omega), xdf_5]
    rfl
def FPl (z p : Nat) : Nat → Value := updV (updV (xdf 5) 4 (.ref (z + (p + 1)))) 5 (.ref (z + (p + 2)))
def Pl (z p : Nat) (X : XH) (i : Nat) (Y : XH) : Prop := Fr z p 29 X Y ∧ Y.2 (z + p) = some (xobj 5 (FPl z p)) ∧ (CZ z Y (p + 2) (oLb (p + 2)) ∧ CZ z Y (p + 3) (.inl (0, 160)) ∧ CZ z Y (p + 4) (.inl (0, 160))) ∧ (∃ f, Y.2 (z + (p + 1)) = some (xref 3 8 f) ∧ ∀ j, f j = if j < i then some (z + (p + 5 + 3 * j)) else none) ∧ ∀ j, j < i → CZ z Y (p + 5 + 3 * j) (oLn (p + 5 + 3 * j)) ∧ CZ z Y (p + 5 + 3 * j + 1) (.inl (0, 10)) ∧ CZ z Y (p + 5 + 3 * j + 2) (.inl (0, 10))
theorem pl_step (hY : Pl z p X i Y) (hi8 : i < 8) (hA : A = z + (p + 5 + 3 * i)) (hB : B = z + (p + 5 + 3 * i) + 1) (hix : ix = J (i : Int)) (hK : ∀ Y', Pl z p X (i + 1) Y' → Got (K Y') P) : Got (gR Y (z + p) 5 4 (fun a => bV (qLn_init A (xhs Y A (xobj 3 (xdf 3))) B) (fun h5 => wrR h5 a ix A (fun h6 => K h6)))) P := by
  obtain ⟨h1, h2, ⟨l1, l2, l3⟩, ⟨f, h3, h4⟩, h5⟩ := hY
  rw [gR_some (r := z + (p + 1)) h2 rfl]
  refine got_bV (ln_init (X := Y) hA hB) fun Y1 hY1 => ?_
  obtain ⟨f1, c0, c1, c2⟩ := hY1
  have x1 : Y1.2 (z + (p + 1)) = some (xref 3 8 f) := by rw [f1.2 _ (by omega)]; exact h3
  have x0 : Y1.2 (z + p) = some (xobj 5 (FPl z p)) := by rw [f1.2 _ (by omega)]; exact h2
  rw [hix, wrR_some (F := _) x1 hi8 (by omega) (by rw [hA]; exact c0)]
  have cz : ∀ (o : Nat) (sh : Sh), o ≠ p + 1 → CZ z Y1 o sh → CZ z (xhs Y1 (z + (p + 1)) (xref 3 8 (va_up f i (some A)))) o sh := fun o sh ho hc => by
    unfold CZ at *
    rw [xhs_ne (by omega)]
    exact hc
  refine hK _ ⟨⟨by rw [xhs_1, f1.1, h1.1], fun b hb => by rw [xhs_ne (by omega), f1.2 b (by omega), h1.2 b hb]⟩, by rw [xhs_ne (by omega)]; exact x0, ⟨cz _ _ (by omega) (CZ_fr f1 (by omega) l1), cz _ _ (by omega) (CZ_fr f1 (by omega) l2), cz _ _ (by omega) (CZ_fr f1 (by omega) l3)⟩, ⟨_, xhs_eq rfl, fun j => ?_⟩, fun j hj => ?_⟩
  · unfold va_up
    by_cases e : j = i
    · rw [if_pos e, if_pos (by omega), e, hA]
    · rw [if_neg e, h4 j]
      by_cases q : j < i
      · rw [if_pos q, if_pos (by omega)]
      · rw [if_neg q, if_neg (by omega)]
  · by_cases e : j = i
    · rw [e]
      exact ⟨cz _ _ (by omega) c0, cz _ _ (by omega) c1, cz _ _ (by omega) c2⟩
    · obtain ⟨y0, y1, y2⟩ := h5 j (by omega)
      exact ⟨cz _ _ (by omega) (CZ_fr f1 (by omega) y0), cz _ _ (by omega) (CZ_fr f1 (by omega) y1), cz _ _ (by omega) (CZ_fr f1 (by omega) y2)⟩
def PlC (z p : Nat) (Y : XH) : Prop := ∀ j sh, plT p j = some sh → CZ z Y (p + j) sh
theorem plT_lt {j : Nat} (h : plT p j = some sh) : j < 29 := by
  match j, h with
  | 0, _ => omega
  | 1, _ => omega
  | 2, _ => omega
  | 3, _ => omega
  | 4, _ => omega
  | k + 5, h =>
    by_cases q : k < 24
    · omega
    · exfalso
      have e : plT p (k + 5) = none := if_neg q
      rw [e] at h
      cases h
theorem PlC_fr {k n : Nat} (h : Fr z k n X Y) (ho : p + 29 ≤ k ∨ k + n ≤ p) (hc : PlC z p X) : PlC z p Y := fun j sh hj => by
  have := plT_lt hj
  exact CZ_fr h (by omega) (hc j sh hj)
theorem PlC_of (h : Pl z p X 8 Y) : PlC z p Y := by
  obtain ⟨h1, h2, ⟨l1, l2, l3⟩, ⟨f, h3, h4⟩, h5⟩ := h
  intro j sh hj
  match j, hj with
  | 0, hj => cases hj; unfold CZ; rw [Nat.add_zero, h2]; exact congrArg some (pl_obj (z := z) (q := p))
  | 1, hj =>
    cases hj
    unfold CZ
    rw [h3]
    refine congrArg some (congrArg (fun f => xref 3 8 f) (funext fun i => ?_))
    rw [h4 i]
  | 2, hj => cases hj; exact l1
  | 3, hj => cases hj; exact l2
  | 4, hj => cases hj; exact l3
  | k + 5, hj =>
    by_cases q : k < 24
    · have e : plT p (k + 5) = lnT (p + 5 + 3 * (k / 3)) (k % 3) := if_pos q
      rw [e] at hj
      obtain ⟨y0, y1, y2⟩ := h5 (k / 3) (by omega)
      rcases (show k % 3 = 0 ∨ k % 3 = 1 ∨ k % 3 = 2 by omega) with m0 | m0 | m0
      · rw [m0] at hj
        cases hj
        rw [show p + (k + 5) = p + 5 + 3 * (k / 3) by omega]
        exact y0
      · rw [m0] at hj
        cases hj
        rw [show p + (k + 5) = p + 5 + 3 * (k / 3) + 1 by omega]
        exact y1
      · rw [m0] at hj
        cases hj
        rw [show p + (k + 5) = p + 5 + 3 * (k / 3) + 2 by omega]
        exact y2
    · have e : plT p (k + 5) = none := if_neg q
      rw [e] at hj
      cases hj
theorem p_init (hA : A = z + p) (hB : B = z + p + 1) : Got (qP_init A (xhs X A (xobj 5 (xdf 5))) B) (fun Y => Fr z p 29 X Y ∧ PlC z p Y) := by
  subst hA hB
  unfold qP_init
  have e1 : (xhs (xhs X (z + p) (xobj 5 (xdf 5))) (z + p + 1) (xref 3 8 (fun _ => none))).2 (z + p) = some (xobj 5 (xdf 5)) := by
    rw [xhs_ne (by omega), xhs_eq rfl]
  rw [pV_some e1]
  refine got_bV (lb_init (z := z) (q := p + 2) (by omega) (by omega)) fun Y1 hY1 => ?_
  obtain ⟨f1, c0, c1, c2⟩ := hY1
  have e2 : Y1.2 (z + p) = some (xobj 5 (updV (xdf 5) 4 (.ref (z + p + 1)))) := by
    rw [f1.2 _ (by omega), xhs_eq rfl]
  rw [pV_some e2]
  have cz : ∀ (o : Nat) (sh : Sh), o ≠ p → CZ z Y1 o sh → CZ z (xhs Y1 (z + p) (xobj 5 (updV (updV (xdf 5) 4 (.ref (z + p + 1))) 5 (.ref (z + p + 1 + 1))))) o sh := fun o sh ho hc => by
    unfold CZ at *
    rw [xhs_ne (by omega)]
    exact hc
  have P0 : Pl z p X 0 (xhs Y1 (z + p) (xobj 5 (updV (updV (xdf 5) 4 (.ref (z + p + 1))) 5 (.ref (z + p + 1 + 1))))) := by
    refine ⟨⟨?_, fun b hb => ?_⟩, xhs_eq rfl, ⟨cz _ _ (by omega) c0, cz _ _ (by omega) c1, cz _ _ (by omega) c2⟩, ⟨fun _ => none, ?_, fun j => (if_neg (by omega)).symm⟩, fun j hj => absurd hj (by omega)⟩
    · rw [xhs_1, f1.1]; rfl
    · rw [xhs_ne (by omega), f1.2 b (by omega), xhs_ne (by omega), xhs_ne (by omega), xhs_ne (by omega)]
    · rw [xhs_ne (by omega), f1.2 _ (by omega), xhs_ne (by omega), xhs_eq (by omega)]
  refine pl_step (i := 0) P0 (by omega) (by omega) (by omega) rfl fun Y10 P1 => ?_
  refine pl_step (i := 1) P1 (by omega) (by omega) (by omega) rfl fun Y11 P2 => ?_
  refine pl_step (i := 2) P2 (by omega) (by omega) (by omega) rfl fun Y12 P3 => ?_
  refine pl_step (i := 3) P3 (by omega) (by omega) (by omega) rfl fun Y13 P4 => ?_
  refine pl_step (i := 4) P4 (by omega) (by omega) (by omega) rfl fun Y14 P5 => ?_
  refine pl_step (i := 5) P5 (by omega) (by omega) (by omega) rfl fun Y15 P6 => ?_
  refine pl_step (i := 6) P6 (by omega) (by omega) (by omega) rfl fun Y16 P7 => ?_
  refine pl_step (i := 7) P7 (by omega) (by omega) (by omega) rfl fun Y17 P8 => ?_
  exact got_rV ⟨P8.1, PlC_of P8⟩
end NEW2
