/-! the law, call by call -/
section LAW1
set_option maxHeartbeats 100000
variable {z y : Nat} {g g' : XH} {w w' : Int64} {s s' s0 s1 s2 m m' m0 m1 m2 : CT} {G W W' V W1 row row' r0 nm lo lg sn f : Int → Int} {wd hg mt c i j l n p v t k x xx yy N q o to : Int} {a b : Nat} {h : XH}
variable {k r u e d lw up st nv zv tv E L : Int} {w1 w2 w3 : Int64} {h0 : XH} {xs : Nat → Int32} {qd qm : XH → XR} {X Y : XR} {k18 : Nat → Nat → Nat → Int32 → XH → XR}
/-- the script's words, and the law's place -/
def Scr (h0 : XH) (z b : Nat) (L : Int) (xs : Nat → Int32) : Prop := (0 ≤ L ∧ L ≤ 3072) ∧ b < z ∧ (∃ f, h0.1.2.1 b = some (L.toNat, f) ∧ ∀ j, j < L.toNat → f j = xs j) ∧ ∀ a, h0.2 a = none
theorem rd_b (hb : GT h0 z) (hs : Scr h0 z b L xs) (h0' : 0 ≤ i ∧ i < L) {K : Int32 → XR} : rdI (HH h0 z w s w' m) b (J i) K = K (xs i.toNat) := by
  obtain ⟨⟨l0, l1⟩, hbz, ⟨f, f1, f2⟩, _⟩ := hs
  unfold HH hi
  have g1 : GOk (hp z TD h0 w (fun o i => s o (i : Int))) z := GOk.layer hb.1 (Nat.le_refl z)
  unfold rdI
  have e : vdI (hp (z + 371) TM (hp z TD h0 w (fun o i => s o (i : Int))) w' (fun o i => m o (i : Int))) b (J i) = vdI h0 b (J i) := by
    unfold vdI
    rw [hp_low (show b < z + 371 by omega), hp_low hbz]
    rfl
  rw [e]
  unfold vdI
  rw [hb.1.1 b hbz]
  show ob (match h0.1.2.1 b with
    | some (n, f) => if 0 ≤ J i ∧ (J i).toNatClampNeg < n then some (f (J i).toNatClampNeg) else none
    | none => none) K = _
  have h3 : (J i).toNatClampNeg = i.toNat := J_nat h0'.1 (by omega)
  have h4 : (0 : Int32) ≤ J i := (J_le (a := 0) ⟨by omega, by omega, by omega, by omega⟩).mpr h0'.1
  rw [f1]
  show ob (if 0 ≤ J i ∧ (J i).toNatClampNeg < L.toNat then some (f (J i).toNatClampNeg) else none) K = _
  rw [if_pos ⟨h4, by rw [h3]; omega⟩, h3, f2 i.toNat (by omega)]
  rfl
theorem ln_b (hs : Scr h0 z b L xs) {K : Int32 → XR} : lnA (HH h0 z w s w' m) b K = K (J L) := by
  obtain ⟨⟨l0, l1⟩, hbz, ⟨f, f1, f2⟩, f3⟩ := hs
  unfold HH hi lnA
  have e : vlA (hp (z + 371) TM (hp z TD h0 w (fun o i => s o (i : Int))) w' (fun o i => m o (i : Int))) b = some (J L) := by
    unfold vlA
    rw [hp_low (show b < z + 371 by omega), hp_low hbz, f3 b]
    show (match h0.1.2.1 b with
      | some (n, _) => some (Int32.ofNat n)
      | none => (match h0.1.2.2.1 b with
        | some (n, _) => some (Int32.ofNat n)
        | none => none)) = _
    rw [f1]
    show some (Int32.ofNat L.toNat) = some (J L)
    rw [J_lit, Int.toNat_of_nonneg l0]
  rw [e]
  rfl
def LawR (X : XR) (k18 : Nat → Nat → Nat → Int32 → XH → XR) (b z : Nat) (i : Int) (h0 : XH) (w : Int64) : Prop := ∃ s' w2 m', Inv s' m' ∧ X = k18 b z (z + 371) (J (i + 6)) (HH h0 z w s' w2 m')
theorem xs_ex (xs : Nat → Int32) (j : Nat) : ∃ a : Int, xs j = J a ∧ -2147483648 ≤ a ∧ a < 2147483648 := J_ex (xs j)
theorem rd_1 (hb : GT h0 z) (hs : Scr h0 z b L xs) (hi0 : 0 ≤ i) (d : Int) (hd : 0 ≤ d ∧ i + d < L) {v : Int} (hv : xs (i + d).toNat = J v) (s : CT) (w' : Int64) (m : CT) (K : Int32 → XR) : rdI (HH h0 z w s w' m) b (J i + J d) K = K (J v) := by
  rw [J_add, rd_b hb hs (by omega), hv]

end LAW1
