/-! loops by a measure in integers -/
theorem loopI {S : Type} (F : Nat → S → XR) (G : XR → Prop) (I : S → Prop) (m : S → Int) (hm : ∀ s, I s → 0 ≤ m s) (step : ∀ n s, I s → (∀ t, I t → m t < m s → G (F n t)) → G (F (n + 1) s)) (s : S) (hs : I s) (hb : m s < 20000) : G (F LF s) := by
  refine loopM F G I (fun s => (m s).toNat) (fun n s hs ih => step n s hs fun t ht h => ih t ht ?_) LF s hs ?_
  · have := hm t ht
    show (m t).toNat < (m s).toNat
    omega
  · have := hm s hs
    show (m s).toNat < 20000
    omega
theorem b0_ite {P : Prop} {A B : XR} {d : Decidable (J (b01 P) = J 0)} : @ite XR (J (b01 P) = J 0) d A B = @ite XR P (Classical.propDecidable P) B A := by
  by_cases h : P
  · rw [if_pos h, if_neg (fun e => by rw [J_b0] at e; exact e h)]
  · rw [if_neg h, if_pos (by rw [J_b0]; exact h)]
theorem b0_ite2 {P : Prop} {A B : XR} {d : Decidable (J (b01 P) = (0 : Int32))} : @ite XR (J (b01 P) = (0 : Int32)) d A B = @ite XR P (Classical.propDecidable P) B A := b0_ite
theorem J_orp {a l : Int} (h : 0 ≤ a) : J a ||| J (pw l) = J (ior a (pw l)) := J_or ⟨h, Int.natCast_nonneg _⟩
theorem bI_r {v : Int32} {h : XH} {k : Int32 → XH → XR} : bI (rI v h) k = k v h := (fun (e : bI (rI v h) k = k v h) => e) (Eq.refl (k v h))
theorem bV_r {h : XH} {k : XH → XR} : bV (rV h) k = k h := (fun (e : bV (rV h) k = k h) => e) (Eq.refl (k h))
theorem J_l {n : Nat} : (@OfNat.ofNat Int32 n Int32.instOfNat) = J (@OfNat.ofNat Int n (@instOfNat n)) := (fun (e : (@OfNat.ofNat Int32 n Int32.instOfNat) = J (@OfNat.ofNat Int n (@instOfNat n))) => e) J_lit2
theorem K_l {n : Nat} : (@OfNat.ofNat Int64 n Int64.instOfNat) = K (@OfNat.ofNat Int n (@instOfNat n)) := (fun (e : (@OfNat.ofNat Int64 n Int64.instOfNat) = K (@OfNat.ofNat Int n (@instOfNat n))) => e) K_lit
