/-! reads and writes by class -/
theorem bI_rI {v : Int32} {h : XH} {k : Int32 → XH → XR} : bI (rI v h) k = k v h := rfl
theorem bV_rV {h : XH} {k : XH → XR} : bV (rV h) k = k h := rfl
section SL
variable {z a p : Nat} {T : Nat → Option Sh} {g : XH} {w : Int64} {s : Nat → Nat → Int} {x : Nat} {v i : Int}
theorem gI_Ln {k : Int32 → XR} (h : isLn T a) (hx : x < 4) : gI (hp z T g w s) (z + a) 3 x k = k (J (s a x)) := gI_hp h.1 (by
  rcases (show x = 0 ∨ x = 1 ∨ x = 2 ∨ x = 3 by omega) with rfl | rfl | rfl | rfl <;> rfl)
theorem pV_Ln {k : XH → XR} (h : isLn T a) (hx : x < 4) : pV (hp z T g w s) (z + a) 3 x (.int (J v)) k = k (hp z T g w (up s a x v)) := pV_hp h.1 (by
  rcases (show x = 0 ∨ x = 1 ∨ x = 2 ∨ x = 3 by omega) with rfl | rfl | rfl | rfl <;> rfl)
theorem gX_Ln {k : Nat → XR} (h : isLn T a) : gR (hp z T g w s) (z + a) 3 4 k = k (z + (a + 1)) := gR_hp h.1 rfl
theorem gY_Ln {k : Nat → XR} (h : isLn T a) : gR (hp z T g w s) (z + a) 3 5 k = k (z + (a + 2)) := gR_hp h.1 rfl
theorem iO_Ln {k : XR} (h : isLn T a) : isO (hp z T g w s) (z + a) 3 k = k := isO_hp h.1
theorem rX_Ln {k : Int32 → XR} (h : isLn T a) (h0 : 0 ≤ i) (h1 : i < 10) : rdI (hp z T g w s) (z + (a + 1)) (J i) k = k (J (s (a + 1) i.toNat)) := rdI_hp h.2.1 h0 (by omega) (by omega)
theorem rY_Ln {k : Int32 → XR} (h : isLn T a) (h0 : 0 ≤ i) (h1 : i < 10) : rdI (hp z T g w s) (z + (a + 2)) (J i) k = k (J (s (a + 2) i.toNat)) := rdI_hp h.2.2 h0 (by omega) (by omega)
theorem wX_Ln {k : XH → XR} (h : isLn T a) (h0 : 0 ≤ i) (h1 : i < 10) : wrI (hp z T g w s) (z + (a + 1)) (J i) (J v) k = k (hp z T g w (up s (a + 1) i.toNat v)) := wrI_hp h.2.1 h0 (by omega) (by omega)
theorem wY_Ln {k : XH → XR} (h : isLn T a) (h0 : 0 ≤ i) (h1 : i < 10) : wrI (hp z T g w s) (z + (a + 2)) (J i) (J v) k = k (hp z T g w (up s (a + 2) i.toNat v)) := wrI_hp h.2.2 h0 (by omega) (by omega)
/-- a part of the model's arrays: offset and length -/
def alM (o : Nat) : Nat := [0, 1000, 8, 1784, 1784, 14272, 3568, 2, 8, 3200, 1600, 6400, 1600, 1600, 1600, 1600, 8, 184, 1600, 1600].getD o 0
def slM : List Nat := [4, 0, 0, 0, 0, 0, 0, 5, 6, 7, 8, 9, 10, 0, 11, 12, 13, 14, 15, 16, 17, 18, 0, 0, 0, 0, 1, 0, 0, 0, 0, 0, 0, 0, 0, 0, 19, 20, 21, 22]
theorem TM_0 : TM 0 = some (.inr (.inr (9, slot slM 0))) := rfl
theorem gI_M {k : Int32 → XR} (hx : slM.getD x 0 = 0) : gI (hp z TM g w s) (z + 0) 9 x k = k (J (s 0 x)) := gI_hp TM_0 hx
theorem pV_M {k : XH → XR} (hx : slM.getD x 0 = 0) : pV (hp z TM g w s) (z + 0) 9 x (.int (J v)) k = k (hp z TM g w (up s 0 x v)) := pV_hp TM_0 hx
theorem iO_M {k : XR} : isO (hp z TM g w s) (z + 0) 9 k = k := isO_hp TM_0
theorem gL_M {k : Int64 → XR} : gL (hp z TM g w s) (z + 0) 9 26 k = k w := gL_hp TM_0 rfl
end SL
