/-! loops by a measure in integers -/
theorem loopI {S : Type} (F : Nat → S → XR) (G : XR → Prop) (I : S → Prop) (m : S → Int) (hm : ∀ s, I s → 0 ≤ m s) (step : ∀ n s, I s → (∀ t, I t → m t < m s → G (F n t)) → G (F (n + 1) s)) (s : S) (hs : I s) (hb : m s < 20000) : G (F LF s) := by
  refine loopM F G I (fun s => (m s).toNat) (fun n s hs ih => step n s hs fun t ht h => ih t ht ?_) LF s hs ?_
  · have := hm t ht
    show (m t).toNat < (m s).toNat
    omega
  · have := hm s hs
    show (m s).toNat < 20000
    omega
