/-! each class's words are among the tables', its fields' names differ, their types are read -/
theorem xcw0 : (u_ws RX0 TX0 9).all (fun w => decide (w ∈ tables_1) && goodWord w) = true := by decide +kernel
theorem xcw1 : (u_ws RX1 TX1 3).all (fun w => decide (w ∈ tables_1) && goodWord w) = true := by decide +kernel
theorem xcw2 : (u_ws RX2 TX2 3).all (fun w => decide (w ∈ tables_1) && goodWord w) = true := by decide +kernel
theorem xcw3 : (u_ws RX3 TX3 6).all (fun w => decide (w ∈ tables_1) && goodWord w) = true := by decide +kernel
theorem xcw4 : (u_ws RX4 TX4 5).all (fun w => decide (w ∈ tables_1) && goodWord w) = true := by decide +kernel
theorem xcw5 : (u_ws RX5 TX5 6).all (fun w => decide (w ∈ tables_1) && goodWord w) = true := by decide +kernel
theorem xcw6 : (u_ws RX6 TX6 2).all (fun w => decide (w ∈ tables_1) && goodWord w) = true := by decide +kernel
theorem xcw7 : (u_ws RX7 TX7 1).all (fun w => decide (w ∈ tables_1) && goodWord w) = true := by decide +kernel
theorem xcw8 : (u_ws RX8 TX8 12).all (fun w => decide (w ∈ tables_1) && goodWord w) = true := by decide +kernel
theorem xcw9 : (u_ws RX9 TX9 44).all (fun w => decide (w ∈ tables_1) && goodWord w) = true := by decide +kernel
theorem xcls : ∀ (d : Nat) (q : vw_C), vwCl[d]? = some q → (∀ w ∈ u_ws q.1 q.2.1 q.2.2, w ∈ xw) ∧ (∀ a, a < q.2.2 → ∀ b, b < q.2.2 → a ≠ b → (q.2.1 a).2.1 ≠ (q.2.1 b).2.1) ∧ ∃ ty : Nat → FieldType, ∀ k, k < q.2.2 → parseFieldDescriptor (q.2.1 k).2.2.1 = some (ty k) := by
  have key : ∀ {C : String} {T : u_T} {N : Nat}, (u_ws C T N).all (fun w => decide (w ∈ tables_1) && goodWord w) = true → ∀ w ∈ u_ws C T N, w ∈ xw := by
    intro C T N h w hw
    have h1 := List.all_eq_true.mp h w hw
    simp only [Bool.and_eq_true, decide_eq_true_eq] at h1
    exact xw_mem h1.1 h1.2
  intro d q hq
  match d, hq with
  | 0, hq => cases hq; exact ⟨key xcw0, nmX0, tyX0, tyX0_ok⟩
  | 1, hq => cases hq; exact ⟨key xcw1, nmX1, tyX1, tyX1_ok⟩
  | 2, hq => cases hq; exact ⟨key xcw2, nmX2, tyX2, tyX2_ok⟩
  | 3, hq => cases hq; exact ⟨key xcw3, nmX3, tyX3, tyX3_ok⟩
  | 4, hq => cases hq; exact ⟨key xcw4, nmX4, tyX4, tyX4_ok⟩
  | 5, hq => cases hq; exact ⟨key xcw5, nmX5, tyX5, tyX5_ok⟩
  | 6, hq => cases hq; exact ⟨key xcw6, nmX6, tyX6, tyX6_ok⟩
  | 7, hq => cases hq; exact ⟨key xcw7, nmX7, tyX7, tyX7_ok⟩
  | 8, hq => cases hq; exact ⟨key xcw8, nmX8, tyX8, tyX8_ok⟩
  | 9, hq => cases hq; exact ⟨key xcw9, nmX9, tyX9, tyX9_ok⟩
  | n + 10, hq => simp [vwCl] at hq
