/-! plans are copied -/
section CQ
variable {z : Nat} {T : Nat → Option Sh} {g : XH} {w : Int64} {s : Nat → Nat → Int}
def cpLb (s : Nat → Nat → Int) (a b : Nat) : Nat → Nat → Int := cpy (cpy (up s a 0 (s b 0)) (b + 1) (a + 1) 160) (b + 2) (a + 2) 160
theorem qLb_copyFrom_hp {a b : Nat} (ha : isLb T a) (hb : isLb T b) (hab : a + 2 < b ∨ b + 2 < a) : qLb_copyFrom (z + a) (z + b) (hp z T g w s) = rV (hp z T g w (cpLb s a b)) := by
  obtain ⟨a0, a1, a2⟩ := ha
  obtain ⟨b0, b1, b2⟩ := hb
  unfold qLb_copyFrom
  rw [gI_hp b0 rfl, pV_hp a0 rfl, gR_hp b0 (r := b + 1) rfl, gR_hp a0 (r := a + 1) rfl, show (0 : Int32) = J 0 from rfl, show (160 : Int32) = J (160 : Nat) from rfl, cpI_hp b1 a1 (by omega) (by omega) (by omega) (by omega), gR_hp b0 (r := b + 2) rfl, gR_hp a0 (r := a + 2) rfl, cpI_hp b2 a2 (by omega) (by omega) (by omega) (by omega)]
  rfl
def cpLns (s : Nat → Nat → Int) (a b : Nat) : Nat → Nat → Nat → Int
  | 0 => s
  | i + 1 => cpLn (cpLns s a b i) (a + 5 + 3 * i) (b + 5 + 3 * i)
def cpHd (s : Nat → Nat → Int) (a b : Nat) : Nat → Nat → Int := up (up (up (up s a 0 (s b 0)) a 1 (s b 1)) a 2 (s b 2)) a 3 (s b 3)
def cpPl (s : Nat → Nat → Int) (a b : Nat) : Nat → Nat → Int := cpLb (cpLns (cpHd s a b) a b (s b 3).toNat) (a + 2) (b + 2)
theorem cpy_ne {o d m b : Nat} (h : b ≠ d) : cpy s o d m b = s b := funext fun j => if_neg fun e => h e.1
theorem cpLn_ne {a b c : Nat} (h : c < a ∨ a + 2 < c) : cpLn s a b c = s c := by
  unfold cpLn
  rw [cpy_ne (by omega), cpy_ne (by omega), up_ne (by omega), up_ne (by omega), up_ne (by omega), up_ne (by omega)]
theorem cpLns_ne {a b c : Nat} : ∀ n : Nat, (c < a + 5 ∨ a + 5 + 3 * n ≤ c) → cpLns s a b n c = s c
  | 0, _ => rfl
  | n + 1, h => by
    show cpLn (cpLns s a b n) (a + 5 + 3 * n) (b + 5 + 3 * n) c = s c
    rw [cpLn_ne (by omega), cpLns_ne n (by omega)]
theorem cpHd_ne {a b c : Nat} (h : c ≠ a) : cpHd s a b c = s c := by
  unfold cpHd
  rw [up_ne h, up_ne h, up_ne h, up_ne h]
theorem cpLb_ne {a b c : Nat} (h : c < a ∨ a + 2 < c) : cpLb s a b c = s c := by
  unfold cpLb
  rw [cpy_ne (by omega), cpy_ne (by omega), up_ne (by omega)]
theorem qP_copyFrom_hp {a b n : Nat} (ha : isPl T a) (hb : isPl T b) (hab : a + 28 < b ∨ b + 28 < a) (hn : n ≤ 8) (hs : s b 3 = n) : qP_copyFrom (z + a) (z + b) (hp z T g w s) = rV (hp z T g w (cpPl s a b)) := by
  obtain ⟨a0, a1, a2, a3⟩ := ha
  obtain ⟨b0, b1, b2, b3⟩ := hb
  have hne : b ≠ a := by omega
  have h3 : cpHd s a b a 3 = n := by rw [← hs]; unfold cpHd; rw [up_same, if_pos rfl]
  have key := loopM (S := Nat) (fun k i => qP_copyFrom_34 k (z + a) (z + b) (J i) (hp z T g w (cpLns (cpHd s a b) a b i))) (fun X => X = rV (hp z T g w (cpPl s a b))) (fun i => i ≤ n) (fun i => n - i) (fun k i hi ih => by
    show qP_copyFrom_34_b (qP_copyFrom_34 k) (z + a) (z + b) (J i) (hp z T g w (cpLns (cpHd s a b) a b i)) = _
    unfold qP_copyFrom_34_b
    rw [gI_hp a0 rfl, cpLns_ne i (by omega), h3]
    simp only [J_lt (a := (i : Int)) (b := (n : Int)) ⟨by omega, by omega, by omega, by omega⟩]
    by_cases h : i < n
    · rw [if_pos (by omega), gR_hp a0 (r := a + 1) rfl, rdR_hp a1 (by omega) (by omega) (by omega), gR_hp b0 (r := b + 1) rfl, rdR_hp b1 (by omega) (by omega) (by omega), show ((i : Int)).toNat = i from rfl, isO_hp (a3 i (by omega)).1, qLn_copyFrom_hp (a3 i (by omega)) (b3 i (by omega)) (by omega)]
      have h1 := ih (i + 1) (by omega) (by omega)
      show qP_copyFrom_34 k (z + a) (z + b) (J i + J 1) (hp z T g w (cpLns (cpHd s a b) a b (i + 1))) = _
      rw [J_add]
      exact h1
    · rw [if_neg (by omega)]
      have e : i = n := by omega
      unfold qP_copyFrom_63
      rw [gR_hp a0 (r := a + 2) rfl, gR_hp b0 (r := b + 2) rfl, isO_hp a2.1, qLb_copyFrom_hp a2 b2 (by omega), e]
      unfold cpPl
      rw [hs]
      rfl)
  unfold qP_copyFrom
  rw [gI_hp b0 rfl, pV_hp a0 rfl, gI_hp b0 rfl, pV_hp a0 rfl, gI_hp b0 rfl, pV_hp a0 rfl, gI_hp b0 rfl, pV_hp a0 rfl]
  simp only [up_ne hne]
  exact key LF 0 (by omega) (by show n - 0 < 20000; omega)
end CQ
