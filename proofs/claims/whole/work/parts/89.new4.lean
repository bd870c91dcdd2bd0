/-! the class's object, made -/
section NEW4
variable {z y q p k n a c d x A B N i : Nat} {X Y Y' W : XH} {e e' : XE} {F : Nat → Value} {v : Value} {K : XH → XR} {sh sh' : Sh} {P C : XH → Prop} {ix : Int32} {R : XR} {f : Nat → Option Nat}
def Dn (z : Nat) (X : XH) (k : Nat) (F : Nat → Value) (Y : XH) : Prop := Y.1 = X.1 ∧ (∀ b, (b < z ∨ z + k ≤ b) → Y.2 b = X.2 b) ∧ Y.2 z = some (xobj 8 F) ∧ ∀ o sh, 1 ≤ o → o < k → o ≠ 64 → TD o = some sh → CZ z Y o sh
theorem CZ_xz (h : CZ z Y k sh) (hk : 1 ≤ k) : CZ z (xhs Y z e) k sh := by
  unfold CZ at *
  rw [xhs_ne (by omega)]
  exact h
theorem dn_blk (hD : Dn z X k F Y) (hk : 1 ≤ k) (hf : Fr z k n Y Y') (hc : ∀ o sh, k ≤ o → o < k + n → o ≠ 64 → TD o = some sh → CZ z Y' o sh) : Dn z X (k + n) F Y' := by
  obtain ⟨h1, h2, h3, h4⟩ := hD
  refine ⟨by rw [hf.1, h1], fun b hb => by rw [hf.2 b (by omega), h2 b (by omega)], by rw [hf.2 z (by omega)]; exact h3, fun o sh o1 o2 o3 hT => ?_⟩
  by_cases e : o < k
  · exact CZ_fr hf (by omega) (h4 o sh o1 e o3 hT)
  · exact hc o sh (by omega) o2 o3 hT
theorem dn_pV (hD : Dn z X k F Y) (hk : 1 ≤ k) (hK : ∀ Y', Dn z X k (updV F x v) Y' → Y'.2 (z + 64) = Y.2 (z + 64) → Got (K Y') P) : Got (pV Y z 8 x v K) P := by
  obtain ⟨h1, h2, h3, h4⟩ := hD
  rw [pV_some h3]
  exact hK _ ⟨h1, fun b hb => by rw [xhs_ne (by omega), h2 b hb], xhs_eq rfl, fun o sh o1 o2 o3 hT => CZ_xz (h4 o sh o1 o2 o3 hT) o1⟩ (xhs_ne (by omega))
theorem dn_step (hD : Dn z X k F Y) (hk : 1 ≤ k) (hi0 : Got R (fun Y' => Fr z k n Y Y' ∧ C Y')) (hC : ∀ Y', C Y' → ∀ o sh, k ≤ o → o < k + n → o ≠ 64 → TD o = some sh → CZ z Y' o sh) (hK : ∀ Y', Dn z X (k + n) (updV F x v) Y' → (64 < k → Y'.2 (z + 64) = Y.2 (z + 64)) → Got (K Y') P) : Got (bV R (fun h1 => pV h1 z 8 x v (fun h2 => K h2))) P := by
  refine got_bV hi0 fun Y1 hY1 => ?_
  refine dn_pV (dn_blk hD hk hY1.1 (hC Y1 hY1.2)) (by omega) fun Y2 h2 h3 => hK Y2 h2 fun h64 => ?_
  rw [h3, hY1.1.2 _ (by omega)]
theorem cz_of {o : Nat} (hT : TD o = some sh) (e : TD o = some sh') (hc : CZ z Y o sh') : CZ z Y o sh := by
  rw [e] at hT
  injection hT with hT
  rw [← hT]
  exact hc
theorem plan_cov (hp : ∀ j, j < 29 → TD (p + j) = plT p j) (h : PlC z p Y) {o : Nat} (h1 : p ≤ o) (h2 : o < p + 29) (hT : TD o = some sh) : CZ z Y o sh := by
  have e : o = p + (o - p) := by omega
  rw [e] at hT ⊢
  rw [hp _ (by omega)] at hT
  exact h _ _ hT
theorem TD_6 {j : Nat} (h : j < 29) : TD (6 + j) = plT 6 j := by
  unfold TD
  rw [if_neg (by omega), if_pos (by omega), Nat.add_sub_cancel_left]
theorem TD_35 {j : Nat} (h : j < 29) : TD (35 + j) = plT 35 j := by
  unfold TD
  rw [if_neg (by omega), if_neg (by omega), if_pos (by omega), Nat.add_sub_cancel_left]
theorem TD_H {j : Nat} (hi8 : i < 8) (h : j < 29) : TD (68 + 29 * i + j) = plT (68 + 29 * i) j := by
  unfold TD
  rw [if_neg (by omega), if_neg (by omega), if_neg (by omega), if_neg (by omega), if_pos (by omega), show (68 + 29 * i + j - 68) / 29 = i by omega, show (68 + 29 * i + j - 68) % 29 = j by omega]
theorem TD_S {j : Nat} (hi2 : i < 2) (h : j < 29) : TD (313 + 29 * i + j) = plT (313 + 29 * i) j := by
  unfold TD
  rw [if_neg (by omega), if_neg (by omega), if_neg (by omega), if_neg (by omega), if_neg (by omega), if_neg (by omega), if_neg (by omega), if_pos (by omega), show (313 + 29 * i + j - 313) / 29 = i by omega, show (313 + 29 * i + j - 313) % 29 = j by omega]
theorem dn_slot (hD : Dn z X k F Y) (hkk : k = 313 + 29 * i) (hi2 : i < 2) (hF5 : F 5 = .ref (z + 64)) (h64 : Y.2 (z + 64) = some (xref 5 2 f)) (hA : A = z + k) (hB : B = z + k + 1) (hix : ix = J (i : Int)) (hK : ∀ Y', Dn z X (k + 29) F Y' → Y'.2 (z + 64) = some (xref 5 2 (va_up f i (some A))) → Got (K Y') P) : Got (gR Y z 8 5 (fun a => bV (qP_init A (xhs Y A (xobj 5 (xdf 5))) B) (fun h23 => wrR h23 a ix A (fun h24 => K h24)))) P := by
  rw [gR_some hD.2.2.1 hF5]
  refine got_bV (p_init (X := Y) hA hB) fun Y1 hY1 => ?_
  obtain ⟨f1, c0⟩ := hY1
  have h64' : Y1.2 (z + 64) = some (xref 5 2 f) := by rw [f1.2 _ (by omega)]; exact h64
  obtain ⟨F0, hF0⟩ := PlC_0 c0
  have D1 : Dn z X (k + 29) F Y1 := dn_blk hD (by omega) f1 (fun o sh o1 o2 _ hT => plan_cov (fun j hj => by rw [hkk]; exact TD_S hi2 hj) c0 o1 o2 hT)
  rw [hix, wrR_some (F := F0) h64' hi2 (by omega) (by rw [hA]; exact hF0)]
  obtain ⟨g1, g2, g3, g4⟩ := D1
  exact hK _ ⟨g1, fun b hb => by rw [xhs_ne (by omega), g2 b hb], by rw [xhs_ne (by omega)]; exact g3, fun o sh o1 o2 o3 hT => by
    have := g4 o sh o1 o2 o3 hT
    unfold CZ at *
    rw [xhs_ne (by omega)]
    exact this⟩ (xhs_eq rfl)
theorem lay_of {T : Nat → Option Sh} {s : CT} (hm : Y.1 = X.1) (h2 : ∀ o sh, o < n → T o = some sh → Y.2 (z + o) = some (ent z 0 (fun i => s o (i : Int)) sh)) (h3 : ∀ b, (b < z ∨ z + n ≤ b) → Y.2 b = X.2 b) (hT : ∀ o, o < n → (T o).isSome = true) (hT2 : ∀ o, n ≤ o → T o = none) : Y = hi z T X 0 s := by
  refine Prod.ext hm (funext fun a => ?_)
  show Y.2 a = (match (if z ≤ a then T (a - z) else none) with
    | some sh => some (ent z 0 (fun i => s (a - z) (i : Int)) sh)
    | none => X.2 a)
  by_cases h : a < z ∨ z + n ≤ a
  · have e : (if z ≤ a then T (a - z) else none) = none := by
      by_cases q : z ≤ a
      · rw [if_pos q, hT2 _ (by omega)]
      · rw [if_neg q]
    rw [e]
    exact h3 a h
  · rw [if_pos (by omega)]
    have q := hT (a - z) (by omega)
    cases hc : T (a - z) with
    | none => rw [hc] at q; cases q
    | some sh =>
      have := h2 (a - z) sh (by omega) hc
      rw [show z + (a - z) = a by omega] at this
      exact this
end NEW4
