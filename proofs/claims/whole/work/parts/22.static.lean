/-! what is only read, under a layer -/
def GOk (g : XH) (z : Nat) : Prop := (∀ a, a < z → g.2 a = none) ∧ XLow g z ∧ ∃ h b L xs, h.1 = g.1 ∧ XInit h b L xs
section GS
variable {z y : Nat} {T : Nat → Option Sh} {g : XH} {w : Int64} {s : Nat → Nat → Int} {i : Int}
theorem GOk.layer (h : GOk g z) (hy : z ≤ y) : GOk (hp y T g w s) z := by
  refine ⟨fun a ha => ?_, h.2.1, h.2.2⟩
  show (match (if y ≤ a then T (a - y) else none) with
    | some sh => some (ent y w (s (a - y)) sh)
    | none => g.2 a) = none
  rw [if_neg (by omega)]
  exact h.1 a ha
theorem hp_low {a : Nat} (h : a < z) : (hp z T g w s).2 a = g.2 a := by
  show (match (if z ≤ a then T (a - z) else none) with
    | some sh => some (ent z w (s (a - z)) sh)
    | none => g.2 a) = _
  rw [if_neg (by omega)]
theorem rdI_low {a n : Nat} {f : Nat → Int32} {k : Int32 → XR} (h : GOk g z) (ha : g.1.2.1 a = some (n, f)) (h0 : 0 ≤ i) (h1 : i < n) (h2 : i < 100000) : rdI (hp z T g w s) a (J i) k = k (f i.toNat) := by
  have hz := h.2.1.1 a n f ha
  have h3 : (J i).toNatClampNeg = i.toNat := J_nat h0 (by omega)
  have h4 : (0 : Int32) ≤ J i := (J_le (a := 0) ⟨by omega, by omega, by omega, by omega⟩).mpr h0
  unfold rdI vdI
  rw [hp_low hz, h.1 a hz]
  show ob (match g.1.2.1 a with
    | some (n, f) => if 0 ≤ J i ∧ (J i).toNatClampNeg < n then some (f (J i).toNatClampNeg) else none
    | none => none) k = _
  rw [ha]
  show ob (if 0 ≤ J i ∧ (J i).toNatClampNeg < n then some (f (J i).toNatClampNeg) else none) k = _
  rw [if_pos ⟨h4, by rw [h3]; omega⟩, h3]
  rfl
theorem acr_hp {k : Int32 → XR} (h : GOk g z) (h0 : 0 ≤ i) (h1 : i < 8) : gS (hp z T g w s) 0 (fun a => rdI (hp z T g w s) a (J i) k) = k (acrF i.toNat) := by
  obtain ⟨h', b, L, xs, e, hI⟩ := h.2.2
  obtain ⟨-, -, ⟨t, n, f, e1, e2, e3, e4⟩, -⟩ := hI
  rw [e] at e1 e2
  unfold gS
  show (match g.1.1 0 with
    | .ref v => rdI (hp z T g w s) v (J i) k
    | _ => none) = _
  rw [e1]
  show rdI (hp z T g w s) t (J i) k = _
  rw [rdI_low h e2 h0 (by omega) (by omega), e4 _ (by omega)]
theorem dwn_hp {k : Int32 → XR} (h : GOk g z) (h0 : 0 ≤ i) (h1 : i < 8) : gS (hp z T g w s) 1 (fun a => rdI (hp z T g w s) a (J i) k) = k (dwnF i.toNat) := by
  obtain ⟨h', b, L, xs, e, hI⟩ := h.2.2
  obtain ⟨-, -, -, ⟨t, n, f, e1, e2, e3, e4⟩, -⟩ := hI
  rw [e] at e1 e2
  unfold gS
  show (match g.1.1 1 with
    | .ref v => rdI (hp z T g w s) v (J i) k
    | _ => none) = _
  rw [e1]
  show rdI (hp z T g w s) t (J i) k = _
  rw [rdI_low h e2 h0 (by omega) (by omega), e4 _ (by omega)]
theorem way_hp {k : Int32 → XR} (h : GOk g z) (h0 : 0 ≤ i) (h1 : i < 9) : gS (hp z T g w s) 2 (fun a => rdI (hp z T g w s) a (J i) k) = k (wayF i.toNat) := by
  obtain ⟨h', b, L, xs, e, hI⟩ := h.2.2
  obtain ⟨-, -, -, -, ⟨t, n, f, e1, e2, e3, e4⟩, -⟩ := hI
  rw [e] at e1 e2
  unfold gS
  show (match g.1.1 2 with
    | .ref v => rdI (hp z T g w s) v (J i) k
    | _ => none) = _
  rw [e1]
  show rdI (hp z T g w s) t (J i) k = _
  rw [rdI_low h e2 h0 (by omega) (by omega), e4 _ (by omega)]
end GS
