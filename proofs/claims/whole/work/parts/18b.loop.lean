/-! loops: what holds of the answer of every turn that is nearer to the end holds of this one -/
theorem loopM {S : Type} (F : Nat → S → XR) (G : XR → Prop) (I : S → Prop) (m : S → Nat) (step : ∀ n s, I s → (∀ t, I t → m t < m s → G (F n t)) → G (F (n + 1) s)) : ∀ n s, I s → m s < n → G (F n s) := by
  intro n
  induction n with
  | zero => intro s _ h; omega
  | succ n ih => intro s hs h; exact step n s hs (fun t ht hm => ih t ht (by omega))
section FL
variable {z : Nat} {T : Nat → Option Sh} {g : XH} {w : Int64} {s : Nat → Nat → Int}
def fil (s : Nat → Nat → Int) (o n : Nat) (v : Int) : Nat → Nat → Int := fun b j => if b = o ∧ j < n then v else s b j
theorem qJA_fill_hp {o n : Nat} {v : Int} (hT : T o = some (.inl (0, n))) (hn : n ≤ 15000) : qJA_fill (z + o) (J v) (hp z T g w s) = rV (hp z T g w (fil s o n v)) := by
  have key := loopM (S := Nat) (fun k i => qJA_fill_5 k (z + o) (J v) (J i) (J n) (hp z T g w (fil s o i v))) (fun X => X = rV (hp z T g w (fil s o n v))) (fun i => i ≤ n) (fun i => n - i) (fun k i hi ih => by
    show qJA_fill_5_b (qJA_fill_5 k) (z + o) (J v) (J i) (J n) (hp z T g w (fil s o i v)) = _
    unfold qJA_fill_5_b
    simp only [J_lt (a := (i : Int)) (b := (n : Int)) ⟨by omega, by omega, by omega, by omega⟩]
    by_cases h : i < n
    · rw [if_pos (by omega), wrI_hp hT (by omega) (by omega) (by omega), show (1 : Int32) = J 1 from rfl, J_add]
      have h1 := ih (i + 1) (by omega) (by omega)
      have e : up (fil s o i v) o (i : Int).toNat v = fil s o (i + 1) v := by
        funext b j
        unfold up fil
        by_cases hb : b = o
        · by_cases hj : j = i
          · subst hj; simp [hb]
          · have e2 : j < i ↔ j < i + 1 := by omega
            simp [hb, hj, e2]
        · simp [hb]
      rw [e]
      exact h1
    · rw [if_neg (by omega)]
      have e : i = n := by omega
      rw [e])
  unfold qJA_fill
  rw [lnA_hp hT]
  have h0 := key LF 0 (by omega) (by show n - 0 < 20000; omega)
  have e : fil s o 0 v = s := by funext b j; unfold fil; simp
  rw [← h0]
  show _ = qJA_fill_5 LF (z + o) (J v) (J (0 : Nat)) (J n) (hp z T g w (fil s o 0 v))
  rw [e]
  rfl
end FL
