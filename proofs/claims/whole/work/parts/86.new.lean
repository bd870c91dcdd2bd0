/-! new things, cell by cell -/
section NEW
variable {z y q p k n a c d x A B N : Nat} {X Y Y' W : XH} {e e' : XE} {F : Nat → Value} {v : Value} {K : XH → XR} {sh : Sh} {P : XH → Prop}
theorem xhs_eq (h : c = a) : (xhs X a e).2 c = some e := if_pos h
theorem xhs_ne (h : c ≠ a) : (xhs X a e).2 c = X.2 c := if_neg h
theorem xhs_1 : (xhs X a e).1 = X.1 := rfl
def Got (R : XR) (P : XH → Prop) : Prop := ∃ Y, R = rV Y ∧ P Y
theorem got_rV (h : P Y) : Got (rV Y) P := ⟨Y, rfl, h⟩
theorem got_bV {R : XR} {Q : XH → Prop} (h : Got R Q) (hK : ∀ Y, Q Y → Got (K Y) P) : Got (bV R K) P := by
  obtain ⟨Y, e, hQ⟩ := h
  rw [e, bV_r]
  exact hK Y hQ
/-- a cell as the layer has it, when all is nought -/
def CZ (z : Nat) (Y : XH) (o : Nat) (sh : Sh) : Prop := Y.2 (z + o) = some (ent z 0 (fun _ => 0) sh)
def Fr (z q n : Nat) (X Y : XH) : Prop := Y.1 = X.1 ∧ ∀ b, (b < z + q ∨ z + q + n ≤ b) → Y.2 b = X.2 b
theorem CZ_fr (h : Fr z q n X Y) {o : Nat} (ho : o < q ∨ q + n ≤ o) (hc : CZ z X o sh) : CZ z Y o sh := by
  unfold CZ at *
  rw [h.2 _ (by omega)]
  exact hc
theorem pV_some (h : Y.2 a = some (xobj d F)) : pV Y a d x v K = K (xhs Y a (xobj d (updV F x v))) := by
  unfold pV
  rw [h]
  exact if_pos rfl
theorem gR_some {r : Nat} {K : Nat → XR} (h : Y.2 a = some (xobj d F)) (hF : F x = .ref r) : gR Y a d x K = K r := by
  unfold gR vR vO
  rw [h]
  show ob (match (if d = d then some F else none) with
    | some F => (match F x with
      | .ref v => some v
      | _ => none)
    | none => none) K = _
  rw [if_pos rfl]
  show ob (match F x with
      | .ref v => some v
      | _ => none) K = _
  rw [hF]
  rfl
theorem isO_some {K : XR} (h : Y.2 a = some (xobj d F)) : isO Y a d K = K := by
  unfold isO vO
  rw [h]
  show ob (if d = d then some F else none) (fun _ => K) = _
  rw [if_pos rfl]
  rfl
theorem wrR_some {f : Nat → Option Nat} {i : Nat} (h : Y.2 a = some (xref c n f)) (hi0 : i < n) (hn : n ≤ 100) (h2 : Y.2 N = some (xobj c F)) : wrR Y a (J i) N K = K (xhs Y a (xref c n (va_up f i (some N)))) := by
  have h3 : (J (i : Int)).toNatClampNeg = (i : Int).toNat := J_nat (by omega) (by omega)
  have h4 : (0 : Int32) ≤ J (i : Int) := (J_le (a := 0) ⟨by omega, by omega, by omega, by omega⟩).mpr (by omega)
  have h5 : (i : Int).toNat = i := by omega
  unfold wrR
  rw [h]
  show (if 0 ≤ J (i : Int) ∧ (J (i : Int)).toNatClampNeg < n then isO Y N c (K (xhs Y a (xref c n (va_up f (J (i : Int)).toNatClampNeg (some N))))) else none) = _
  rw [if_pos ⟨h4, by rw [h3]; omega⟩, isO_some h2, h3, h5]
theorem updV_eq : updV F x v x = v := if_pos rfl
theorem updV_ne {j : Nat} (h : j ≠ x) : updV F x v j = F j := if_neg h
theorem xdf_0 : ∀ k, xdf 0 k = defaultValue (tyX0 k) := by
  have key : ∀ k, k < 9 → xdf 0 k = defaultValue (tyX0 k) := fun k hk => by
    unfold xdf
    show (match parseFieldDescriptor (TX0 k).2.2.1 with
      | some ty => defaultValue ty
      | none => .null) = _
    rw [tyX0_ok k hk]
  intro k
  by_cases h : k < 9
  · exact key k h
  · obtain ⟨n, rfl⟩ : ∃ n, k = n + 9 := ⟨k - 9, by omega⟩
    have h1 : TX0 (n + 9) = TX0 8 := rfl
    have h2 : tyX0 (n + 9) = tyX0 8 := rfl
    unfold xdf
    show (match parseFieldDescriptor (TX0 (n + 9)).2.2.1 with
      | some ty => defaultValue ty
      | none => .null) = _
    rw [h1, h2, tyX0_ok 8 (by decide)]
theorem xdf_1 : ∀ k, xdf 1 k = defaultValue (tyX1 k) := by
  have key : ∀ k, k < 3 → xdf 1 k = defaultValue (tyX1 k) := fun k hk => by
    unfold xdf
    show (match parseFieldDescriptor (TX1 k).2.2.1 with
      | some ty => defaultValue ty
      | none => .null) = _
    rw [tyX1_ok k hk]
  intro k
  by_cases h : k < 3
  · exact key k h
  · obtain ⟨n, rfl⟩ : ∃ n, k = n + 3 := ⟨k - 3, by omega⟩
    have h1 : TX1 (n + 3) = TX1 2 := rfl
    have h2 : tyX1 (n + 3) = tyX1 2 := rfl
    unfold xdf
    show (match parseFieldDescriptor (TX1 (n + 3)).2.2.1 with
      | some ty => defaultValue ty
      | none => .null) = _
    rw [h1, h2, tyX1_ok 2 (by decide)]
theorem xdf_2 : ∀ k, xdf 2 k = defaultValue (tyX2 k) := by
  have key : ∀ k, k < 3 → xdf 2 k = defaultValue (tyX2 k) := fun k hk => by
    unfold xdf
    show (match parseFieldDescriptor (TX2 k).2.2.1 with
      | some ty => defaultValue ty
      | none => .null) = _
    rw [tyX2_ok k hk]
  intro k
  by_cases h : k < 3
  · exact key k h
  · obtain ⟨n, rfl⟩ : ∃ n, k = n + 3 := ⟨k - 3, by omega⟩
    have h1 : TX2 (n + 3) = TX2 2 := rfl
    have h2 : tyX2 (n + 3) = tyX2 2 := rfl
    unfold xdf
    show (match parseFieldDescriptor (TX2 (n + 3)).2.2.1 with
      | some ty => defaultValue ty
      | none => .null) = _
    rw [h1, h2, tyX2_ok 2 (by decide)]
theorem xdf_3 : ∀ k, xdf 3 k = defaultValue (tyX3 k) := by
  have key : ∀ k, k < 6 → xdf 3 k = defaultValue (tyX3 k) := fun k hk => by
    unfold xdf
    show (match parseFieldDescriptor (TX3 k).2.2.1 with
      | some ty => defaultValue ty
      | none => .null) = _
    rw [tyX3_ok k hk]
  intro k
  by_cases h : k < 6
  · exact key k h
  · obtain ⟨n, rfl⟩ : ∃ n, k = n + 6 := ⟨k - 6, by omega⟩
    have h1 : TX3 (n + 6) = TX3 5 := rfl
    have h2 : tyX3 (n + 6) = tyX3 5 := rfl
    unfold xdf
    show (match parseFieldDescriptor (TX3 (n + 6)).2.2.1 with
      | some ty => defaultValue ty
      | none => .null) = _
    rw [h1, h2, tyX3_ok 5 (by decide)]
theorem xdf_4 : ∀ k, xdf 4 k = defaultValue (tyX4 k) := by
  have key : ∀ k, k < 5 → xdf 4 k = defaultValue (tyX4 k) := fun k hk => by
    unfold xdf
    show (match parseFieldDescriptor (TX4 k).2.2.1 with
      | some ty => defaultValue ty
      | none => .null) = _
    rw [tyX4_ok k hk]
  intro k
  by_cases h : k < 5
  · exact key k h
  · obtain ⟨n, rfl⟩ : ∃ n, k = n + 5 := ⟨k - 5, by omega⟩
    have h1 : TX4 (n + 5) = TX4 4 := rfl
    have h2 : tyX4 (n + 5) = tyX4 4 := rfl
    unfold xdf
    show (match parseFieldDescriptor (TX4 (n + 5)).2.2.1 with
      | some ty => defaultValue ty
      | none => .null) = _
    rw [h1, h2, tyX4_ok 4 (by decide)]
theorem xdf_5 : ∀ k, xdf 5 k = defaultValue (tyX5 k) := by
  have key : ∀ k, k < 6 → xdf 5 k = defaultValue (tyX5 k) := fun k hk => by
    unfold xdf
    show (match parseFieldDescriptor (TX5 k).2.2.1 with
      | some ty => defaultValue ty
      | none => .null) = _
    rw [tyX5_ok k hk]
  intro k
  by_cases h : k < 6
  · exact key k h
  · obtain ⟨n, rfl⟩ : ∃ n, k = n + 6 := ⟨k - 6, by omega⟩
    have h1 : TX5 (n + 6) = TX5 5 := rfl
    have h2 : tyX5 (n + 6) = tyX5 5 := rfl
    unfold xdf
    show (match parseFieldDescriptor (TX5 (n + 6)).2.2.1 with
      | some ty => defaultValue ty
      | none => .null) = _
    rw [h1, h2, tyX5_ok 5 (by decide)]
theorem xdf_6 : ∀ k, xdf 6 k = defaultValue (tyX6 k) := by
  have key : ∀ k, k < 2 → xdf 6 k = defaultValue (tyX6 k) := fun k hk => by
    unfold xdf
    show (match parseFieldDescriptor (TX6 k).2.2.1 with
      | some ty => defaultValue ty
      | none => .null) = _
    rw [tyX6_ok k hk]
  intro k
  by_cases h : k < 2
  · exact key k h
  · obtain ⟨n, rfl⟩ : ∃ n, k = n + 2 := ⟨k - 2, by omega⟩
    have h1 : TX6 (n + 2) = TX6 1 := rfl
    have h2 : tyX6 (n + 2) = tyX6 1 := rfl
    unfold xdf
    show (match parseFieldDescriptor (TX6 (n + 2)).2.2.1 with
      | some ty => defaultValue ty
      | none => .null) = _
    rw [h1, h2, tyX6_ok 1 (by decide)]
theorem xdf_7 : ∀ k, xdf 7 k = defaultValue (tyX7 k) := by
  have key : ∀ k, k < 1 → xdf 7 k = defaultValue (tyX7 k) := fun k hk => by
    unfold xdf
    show (match parseFieldDescriptor (TX7 k).2.2.1 with
      | some ty => defaultValue ty
      | none => .null) = _
    rw [tyX7_ok k hk]
  intro k
  by_cases h : k < 1
  · exact key k h
  · obtain ⟨n, rfl⟩ : ∃ n, k = n + 1 := ⟨k - 1, by omega⟩
    have h1 : TX7 (n + 1) = TX7 0 := rfl
    have h2 : tyX7 (n + 1) = tyX7 0 := rfl
    unfold xdf
    show (match parseFieldDescriptor (TX7 (n + 1)).2.2.1 with
      | some ty => defaultValue ty
      | none => .null) = _
    rw [h1, h2, tyX7_ok 0 (by decide)]
theorem xdf_8 : ∀ k, xdf 8 k = defaultValue (tyX8 k) := by
  have key : ∀ k, k < 12 → xdf 8 k = defaultValue (tyX8 k) := fun k hk => by
    unfold xdf
    show (match parseFieldDescriptor (TX8 k).2.2.1 with
      | some ty => defaultValue ty
      | none => .null) = _
    rw [tyX8_ok k hk]
  intro k
  by_cases h : k < 12
  · exact key k h
  · obtain ⟨n, rfl⟩ : ∃ n, k = n + 12 := ⟨k - 12, by omega⟩
    have h1 : TX8 (n + 12) = TX8 11 := rfl
    have h2 : tyX8 (n + 12) = tyX8 11 := rfl
    unfold xdf
    show (match parseFieldDescriptor (TX8 (n + 12)).2.2.1 with
      | some ty => defaultValue ty
      | none => .null) = _
    rw [h1, h2, tyX8_ok 11 (by decide)]
theorem xdf_9 : ∀ k, xdf 9 k = defaultValue (tyX9 k) := by
  have key : ∀ k, k < 44 → xdf 9 k = defaultValue (tyX9 k) := fun k hk => by
    unfold xdf
    show (match parseFieldDescriptor (TX9 k).2.2.1 with
      | some ty => defaultValue ty
      | none => .null) = _
    rw [tyX9_ok k hk]
  intro k
  by_cases h : k < 44
  · exact key k h
  · obtain ⟨n, rfl⟩ : ∃ n, k = n + 44 := ⟨k - 44, by omega⟩
    have h1 : TX9 (n + 44) = TX9 43 := rfl
    have h2 : tyX9 (n + 44) = tyX9 43 := rfl
    unfold xdf
    show (match parseFieldDescriptor (TX9 (n + 44)).2.2.1 with
      | some ty => defaultValue ty
      | none => .null) = _
    rw [h1, h2, tyX9_ok 43 (by decide)]
theorem ln_obj : xobj 3 (updV (updV (xdf 3) 4 (.ref (z + (q + 1)))) 5 (.ref (z + (q + 2)))) = ent z 0 (fun _ => 0) (oLn q) := by
  refine congrArg (fun F => xobj 3 F) (funext fun x => ?_)
  by_cases h : x < 6
  · rcases (show x = 0 ∨ x = 1 ∨ x = 2 ∨ x = 3 ∨ x = 4 ∨ x = 5 by omega) with rfl | rfl | rfl | rfl | rfl | rfl
    · exact xdf_3 0
    · exact xdf_3 1
    · exact xdf_3 2
    · exact xdf_3 3
    · rfl
    · rfl
  · obtain ⟨n, rfl⟩ : ∃ n, x = n + 6 := ⟨x - 6, by omega⟩
    rw [updV_ne (by omega), updV_ne (by omega), xdf_3]
    rfl
theorem ln_init (hA : A = z + q) (hB : B = z + q + 1) : Got (qLn_init A (xhs X A (xobj 3 (xdf 3))) B) (fun Y => Fr z q 3 X Y ∧ CZ z Y q (oLn q) ∧ CZ z Y (q + 1) (.inl (0, 10)) ∧ CZ z Y (q + 2) (.inl (0, 10))) := by
  subst hA hB
  unfold qLn_init
  simp (disch := omega) only [pV, xhs_eq, xhs_ne, ite_true]
  refine got_rV ⟨⟨rfl, fun b hb => ?_⟩, ?_, ?_, ?_⟩
  · simp (disch := omega) only [xhs_ne]
  · unfold CZ
    simp (disch := omega) only [xhs_eq, xhs_ne]
    exact congrArg some (ln_obj (z := z) (q := q))
  · unfold CZ
    simp (disch := omega) only [xhs_eq, xhs_ne]
    rfl
  · unfold CZ
    simp (disch := omega) only [xhs_eq, xhs_ne]
    rfl
theorem lb_obj : xobj 2 (updV (updV (xdf 2) 1 (.ref (z + (q + 1)))) 2 (.ref (z + (q + 2)))) = ent z 0 (fun _ => 0) (oLb q) := by
  refine congrArg (fun F => xobj 2 F) (funext fun x => ?_)
  by_cases h : x < 3
  · rcases (show x = 0 ∨ x = 1 ∨ x = 2 by omega) with rfl | rfl | rfl
    · exact xdf_2 0
    · rfl
    · rfl
  · obtain ⟨n, rfl⟩ : ∃ n, x = n + 3 := ⟨x - 3, by omega⟩
    rw [updV_ne (by omega), updV_ne (by omega), xdf_2]
    rfl
theorem lb_init (hA : A = z + q) (hB : B = z + q + 1) : Got (qLb_init A (xhs X A (xobj 2 (xdf 2))) B) (fun Y => Fr z q 3 X Y ∧ CZ z Y q (oLb q) ∧ CZ z Y (q + 1) (.inl (0, 160)) ∧ CZ z Y (q + 2) (.inl (0, 160))) := by
  subst hA hB
  unfold qLb_init
  simp (disch := omega) only [pV, xhs_eq, xhs_ne, ite_true]
  refine got_rV ⟨⟨rfl, fun b hb => ?_⟩, ?_, ?_, ?_⟩
  · simp (disch := omega) only [xhs_ne]
  · unfold CZ
    simp (disch := omega) only [xhs_eq, xhs_ne]
    exact congrArg some (lb_obj (z := z) (q := q))
  · unfold CZ
    simp (disch := omega) only [xhs_eq, xhs_ne]
    rfl
  · unfold CZ
    simp (disch := omega) only [xhs_eq, xhs_ne]
    rfl
theorem tx_obj : xobj 6 (updV (xdf 6) 1 (.ref (z + (q + 1)))) = ent z 0 (fun _ => 0) (oT q) := by
  refine congrArg (fun F => xobj 6 F) (funext fun x => ?_)
  by_cases h : x < 2
  · rcases (show x = 0 ∨ x = 1 by omega) with rfl | rfl
    · exact xdf_6 0
    · rfl
  · obtain ⟨n, rfl⟩ : ∃ n, x = n + 2 := ⟨x - 2, by omega⟩
    rw [updV_ne (by omega), xdf_6]
    rfl
theorem tx_init (hA : A = z + q) (hB : B = z + q + 1) : Got (qT_init A (xhs X A (xobj 6 (xdf 6))) B) (fun Y => Fr z q 2 X Y ∧ CZ z Y q (oT q) ∧ CZ z Y (q + 1) (.inl (1, 1000))) := by
  subst hA hB
  unfold qT_init
  simp (disch := omega) only [pV, xhs_eq, xhs_ne, ite_true]
  refine got_rV ⟨⟨rfl, fun b hb => ?_⟩, ?_, ?_⟩
  · simp (disch := omega) only [xhs_ne]
  · unfold CZ
    simp (disch := omega) only [xhs_eq, xhs_ne]
    exact congrArg some (tx_obj (z := z) (q := q))
  · unfold CZ
    simp (disch := omega) only [xhs_eq, xhs_ne]
    rfl
end NEW
