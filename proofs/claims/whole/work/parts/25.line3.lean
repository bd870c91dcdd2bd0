/-! lines that cannot be -/
section LC
variable {z : Nat} {T : Nat → Option Sh} {g : XH} {w : Int64} {s : Nat → Nat → Int}
def badA (s : Nat → Nat → Int) (a : Nat) (m : Int) (r : Nat) : Prop := wayA s a r < 0 ∨ (1 ≤ r ∧ m < trn (wayA s a (r - 1)) (wayA s a r))
def crkA (s : Nat → Nat → Int) (a : Nat) (m : Int) (n : Nat) : Prop := ∃ r, r < n - 1 ∧ badA s a m r
/-- the answer that a truth has -/
def isB (P : Prop) (X : XR) (h : XH) : Prop := (P → X = rI (J 1) h) ∧ (¬P → X = rI (J 0) h)
theorem trn_in (u v : Int) (hu : -1 ≤ u ∧ u ≤ 7) (hv : -1 ≤ v ∧ v ≤ 7) : 0 ≤ trn u v ∧ trn u v ≤ 4 := by
  unfold trn
  omega
theorem wayA_in {a r : Nat} : -1 ≤ wayA s a r ∧ wayA s a r ≤ 7 := wayI_in _ _
theorem qLn_turnAt_0 {a : Nat} {h : XH} : qLn_turnAt (z + a) (J 0) h = rI (J 0) h := by
  unfold qLn_turnAt
  simp only [show (1 : Int32) = J 1 from rfl, J_lt (a := 0) (b := 1) ⟨by omega, by omega, by omega, by omega⟩]
  rw [if_pos (by omega)]
  rfl
theorem qLn_isCrooked_hp {a n : Nat} {m : Int} (hg : GOk g z) (ha : isLn T a) (hp_ : s a 1 = n) (hn : n ≤ 10) (hm : 0 ≤ m ∧ m ≤ 100) (hi : lnIn s a) : isB (crkA s a m n) (qLn_isCrooked (z + a) (J m) (hp z T g w s)) (hp z T g w s) := by
  have key := loopM (S := Nat) (fun k r => qLn_isCrooked_2 k (z + a) (J m) (J r) (hp z T g w s)) (fun X => isB (crkA s a m n) X (hp z T g w s)) (fun r => r ≤ n ∧ ∀ q, q < r → ¬badA s a m q) (fun r => n - r) (fun k r hr ih => by
    obtain ⟨hr, hq⟩ := hr
    show isB (crkA s a m n) (qLn_isCrooked_2_b (qLn_isCrooked_2 k) (z + a) (J m) (J r) (hp z T g w s)) (hp z T g w s)
    have w1 := wayA_in (s := s) (a := a) (r := r)
    have w0 := wayA_in (s := s) (a := a) (r := r - 1)
    unfold qLn_isCrooked_2_b
    rw [gI_hp ha.1 rfl, hp_]
    simp only [show (1 : Int32) = J 1 from rfl, show (0 : Int32) = J 0 from rfl, J_sub, J_lt (a := (r : Int)) (b := (n : Int) - 1) ⟨by omega, by omega, by omega, by omega⟩]
    by_cases h : r < n - 1
    · rw [if_pos (by omega), isO_hp ha.1, qLn_wayOfRun_hp hg ha hp_ (by omega) (by omega) (by omega) hi]
      show isB (crkA s a m n) (if J (wayA s a r) < J 0 then rI (J 1) (hp z T g w s) else isO (hp z T g w s) (z + a) 3 (bI (qLn_turnAt (z + a) (J r) (hp z T g w s)) (fun v5 h4 => if J m < v5 then rI (J 1) h4 else qLn_isCrooked_2 k (z + a) (J m) (J r + J 1) h4))) (hp z T g w s)
      simp only [J_lt (a := wayA s a r) (b := 0) ⟨by omega, by omega, by omega, by omega⟩]
      by_cases c1 : wayA s a r < 0
      · rw [if_pos c1]
        exact ⟨fun _ => rfl, fun hc => absurd ⟨r, h, Or.inl c1⟩ hc⟩
      · rw [if_neg c1, isO_hp ha.1]
        by_cases c0 : r = 0
        · subst c0
          rw [show ((0 : Nat) : Int) = 0 from rfl, qLn_turnAt_0]
          show isB (crkA s a m n) (if J m < J 0 then rI (J 1) (hp z T g w s) else qLn_isCrooked_2 k (z + a) (J m) (J 0 + J 1) (hp z T g w s)) (hp z T g w s)
          simp only [J_lt (a := m) (b := 0) ⟨by omega, by omega, by omega, by omega⟩]
          rw [if_neg (by omega), J_add]
          exact ih 1 ⟨by omega, fun q hq1 => by
            have e : q = 0 := by omega
            subst e
            rintro (hb | hb)
            · exact c1 hb
            · omega⟩ (by omega)
        · rw [qLn_turnAt_hp hg ha hp_ (by omega) (by omega) (by omega) hi]
          have e1 : ((r : Int) - 1).toNat = r - 1 := by omega
          have t1 := trn_in _ _ w0 w1
          rw [e1]
          show isB (crkA s a m n) (if J m < J (trn (wayA s a (r - 1)) (wayA s a r)) then rI (J 1) (hp z T g w s) else qLn_isCrooked_2 k (z + a) (J m) (J r + J 1) (hp z T g w s)) (hp z T g w s)
          simp only [J_lt (a := m) (b := trn (wayA s a (r - 1)) (wayA s a r)) ⟨by omega, by omega, by omega, by omega⟩]
          by_cases c2 : m < trn (wayA s a (r - 1)) (wayA s a r)
          · rw [if_pos c2]
            exact ⟨fun _ => rfl, fun hc => absurd ⟨r, h, Or.inr ⟨by omega, c2⟩⟩ hc⟩
          · rw [if_neg c2, J_add]
            exact ih (r + 1) ⟨by omega, fun q hq1 => by
              by_cases hqr : q < r
              · exact hq q hqr
              · have e : q = r := by omega
                subst e
                rintro (hb | hb)
                · exact c1 hb
                · exact c2 hb.2⟩ (by omega)
    · rw [if_neg (by omega)]
      exact ⟨fun ⟨q, hq1, hq2⟩ => absurd hq2 (hq q (by omega)), fun _ => rfl⟩)
  exact key LF 0 ⟨by omega, fun q hq => by omega⟩ (by show n - 0 < 20000; omega)
end LC
section LR
variable {z : Nat} {T : Nat → Option Sh} {g : XH} {w : Int64} {s : Nat → Nat → Int}
/-- why a line cannot be, 0 if it can -/
noncomputable def refA (s : Nat → Nat → Int) (a : Nat) (m : Int) (n : Nat) : Int := @ite Int (crkA s a m n) (Classical.propDecidable _) (-3) (if lenA s a (n - 1) < s a 2 - 1 then -4 else 0)
theorem qLn_isShort_hp {a n : Nat} (ha : isLn T a) (hp_ : s a 1 = n) (hn : 1 ≤ n ∧ n ≤ 10) (hi : lnIn s a) (ht : 0 ≤ s a 2 ∧ s a 2 ≤ 100) : qLn_isShort (z + a) (hp z T g w s) = rI (J (if lenA s a (n - 1) < s a 2 - 1 then 1 else 0)) (hp z T g w s) := by
  have h1 := lenA_in hi (n - 1) (by omega)
  unfold qLn_isShort
  rw [isO_hp ha.1, qLn_steps_hp ha hp_ hn hi]
  show gI (hp z T g w s) (z + a) 3 2 _ = _
  rw [gI_hp ha.1 rfl]
  simp only [show (1 : Int32) = J 1 from rfl, show (0 : Int32) = J 0 from rfl, J_sub, J_lt (a := lenA s a (n - 1)) (b := s a 2 - 1) ⟨by omega, by omega, by omega, by omega⟩]
  split <;> rfl
theorem qLn_refusal_hp {a n : Nat} {m : Int} (hg : GOk g z) (ha : isLn T a) (hp_ : s a 1 = n) (hn : 1 ≤ n ∧ n ≤ 10) (hm : 0 ≤ m ∧ m ≤ 100) (hi : lnIn s a) (ht : 0 ≤ s a 2 ∧ s a 2 ≤ 100) : qLn_refusal (z + a) (J m) (hp z T g w s) = rI (J (refA s a m n)) (hp z T g w s) := by
  have h1 := qLn_isCrooked_hp (w := w) hg ha hp_ hn.2 hm hi
  unfold qLn_refusal refA
  rw [isO_hp ha.1]
  by_cases c : crkA s a m n
  · rw [h1.1 c, if_pos c]
    rfl
  · rw [h1.2 c, if_neg c]
    show isO (hp z T g w s) (z + a) 3 _ = _
    rw [isO_hp ha.1, qLn_isShort_hp ha hp_ hn hi ht]
    by_cases c2 : lenA s a (n - 1) < s a 2 - 1
    · rw [if_pos c2, if_pos c2]
      rfl
    · rw [if_neg c2, if_neg c2]
      rfl
end LR
