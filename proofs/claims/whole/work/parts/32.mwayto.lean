section WT
variable {h : XH}
theorem dxI_in (v : Int) : -1 ≤ dxI v ∧ dxI v ≤ 1 := by
  unfold dxI
  split
  · omega
  · split <;> omega
theorem dyI_in (v : Int) : -1 ≤ dyI v ∧ dyI v ≤ 1 := by
  unfold dyI
  split
  · omega
  · split <;> omega
theorem qM_wayTo_49_hp {a b : Int} {k : Nat} (ha : ok32 a) (hb : ok32 b) (hk : k < 8) (e1 : dxI k = sgn a) (e2 : dyI k = sgn b) (e3 : ∀ j : Nat, j < k → ¬(dxI j = sgn a ∧ dyI j = sgn b)) : qM_wayTo_49 LF (J a) (J b) (J 0) h = rI (J k) h := by
  have key := loopM (S := Nat) (fun n j => qM_wayTo_49 n (J a) (J b) (J j) h) (fun X => X = rI (J k) h) (fun j => j ≤ k) (fun j => k - j) (fun n j hj ih => by
    show qM_wayTo_49_b (qM_wayTo_49 n) (J a) (J b) (J j) h = _
    have o1 := sgn_in a
    have o2 := sgn_in b
    have o3 := dxI_in j
    have o4 := dyI_in j
    unfold qM_wayTo_49_b
    rw [qM_dx_hp ⟨by omega, by omega⟩]
    show bI (qM_sign (J a) h) _ = _
    rw [qM_sign_hp ha]
    show (if J (dxI j) = J (sgn a) then bI (qM_dy (J j) h) (fun v6 h5 => bI (qM_sign (J b) h5) (fun v8 h7 => if v6 = v8 then rI (J j) h7 else qM_wayTo_49 n (J a) (J b) (J j + J 1) h7)) else qM_wayTo_49 n (J a) (J b) (J j + J 1) h) = _
    rw [qM_dy_hp ⟨by omega, by omega⟩]
    show (if J (dxI j) = J (sgn a) then bI (qM_sign (J b) h) (fun v8 h7 => if J (dyI j) = v8 then rI (J j) h7 else qM_wayTo_49 n (J a) (J b) (J j + J 1) h7) else qM_wayTo_49 n (J a) (J b) (J j + J 1) h) = _
    rw [qM_sign_hp hb]
    show (if J (dxI j) = J (sgn a) then (if J (dyI j) = J (sgn b) then rI (J j) h else qM_wayTo_49 n (J a) (J b) (J j + J 1) h) else qM_wayTo_49 n (J a) (J b) (J j + J 1) h) = _
    simp only [J_eq (a := dxI j) (b := sgn a) ⟨by omega, by omega, by omega, by omega⟩, J_eq (a := dyI j) (b := sgn b) ⟨by omega, by omega, by omega, by omega⟩, J_add]
    by_cases c : dxI j = sgn a ∧ dyI j = sgn b
    · have e : j = k := by
        by_cases hlt : j < k
        · exact absurd c (e3 j hlt)
        · omega
      rw [if_pos c.1, if_pos c.2, e]
    · have hlt : j < k := by
        by_cases hlt : j < k
        · exact hlt
        · have e : j = k := by omega
          subst e
          exact absurd ⟨e1, e2⟩ c
      have h1 := ih (j + 1) (by omega) (by omega)
      by_cases c1 : dxI j = sgn a
      · rw [if_pos c1, if_neg (fun c2 => c ⟨c1, c2⟩)]
        exact h1
      · rw [if_neg c1]
        exact h1)
  exact key LF 0 (by omega) (by show k - 0 < 20000; omega)
theorem qM_wayTo_hp {x y x1 y1 : Int} (hx : 0 ≤ x ∧ x < 100) (hy : 0 ≤ y ∧ y < 100) (hx1 : 0 ≤ x1 ∧ x1 < 100) (hy1 : 0 ≤ y1 ∧ y1 < 100) : qM_wayTo (J x) (J y) (J x1) (J y1) h = rI (J (wayM (x1 - x) (y1 - y))) h := by
  unfold qM_wayTo qM_wayTo_20 wayM
  simp only [show (0 : Int32) = J 0 from rfl, J_sub, J_eq (a := x1 - x) (b := 0) ⟨by omega, by omega, by omega, by omega⟩, J_eq (a := y1 - y) (b := 0) ⟨by omega, by omega, by omega, by omega⟩]
  generalize ea : x1 - x = a
  generalize eb : y1 - y = b
  rw [qM_size_hp ⟨by omega, by omega⟩]
  have es : ∀ k : Int32 → XH → XR, bI (rI (J a.natAbs) h) k = k (J a.natAbs) h := fun _ => rfl
  have et : ∀ k : Int32 → XH → XR, bI (rI (J b.natAbs) h) k = k (J b.natAbs) h := fun _ => rfl
  simp only [es, qM_size_hp (h := h) (v := b) ⟨by omega, by omega⟩, et, J_eq (a := (a.natAbs : Int)) (b := (b.natAbs : Int)) ⟨by omega, by omega, by omega, by omega⟩]
  by_cases c0 : a = 0 ∧ b = 0
  · rw [if_pos c0.1, if_pos c0.2, c0.1, c0.2, if_pos (by decide)]
    rfl
  · by_cases c1 : a ≠ 0 ∧ b ≠ 0 ∧ a.natAbs ≠ b.natAbs
    · rw [if_neg c1.1, if_neg c1.1, if_neg c1.2.1, if_neg (by omega)]
      have e : wayI a b = -1 := by unfold wayI; rw [if_pos c1]
      rw [e, if_pos (by decide)]
      rfl
    · obtain ⟨k, k1, k2, k3, k4, k5⟩ := wayI_first c0 c1
      rw [k2, if_neg (show ¬((k : Int) < 0) by omega), qM_wayTo_49_hp (k := k) ⟨by omega, by omega⟩ ⟨by omega, by omega⟩ k1 k3 k4 k5]
      by_cases ca : a = 0
      · rw [if_pos ca, if_neg (fun cb => c0 ⟨ca, cb⟩), if_pos ca]
      · by_cases cb : b = 0
        · rw [if_neg ca, if_neg ca, if_pos cb]
        · rw [if_neg ca, if_neg ca, if_neg cb, if_pos (by omega)]
end WT
