/-! contents by integers -/
abbrev CT : Type := Nat → Int → Int
def hi (z : Nat) (T : Nat → Option Sh) (g : XH) (w : Int64) (s : CT) : XH := hp z T g w (fun o i => s o (i : Int))
def rs (s : CT) (o : Nat) (r : Int → Int) : CT := fun b => if b = o then r else s b
def ru (r : Int → Int) (i v : Int) : Int → Int := fun j => if j = i then v else r j
section IB
variable {z y : Nat} {T : Nat → Option Sh} {g : XH} {w w' : Int64} {s m : CT} {o b n d x c r : Nat} {i j v : Int} {F : Nat → Nat} {f : Nat → Nat} {q u : Int → Int}
theorem rs_same : rs s o q o = q := if_pos rfl
theorem rs_ne (h : b ≠ o) : rs s o q b = s b := if_neg h
theorem rs_rs : rs (rs s o q) o u = rs s o u := funext fun b => by
  unfold rs
  split <;> rfl
theorem rs_self : rs s o (s o) = s := funext fun b => by
  unfold rs
  split
  · rename_i e; rw [e]
  · rfl
theorem ru_same : ru q i v i = v := if_pos rfl
theorem ru_ne (h : j ≠ i) : ru q i v j = q j := if_neg h
theorem ru_at : ru q i v j = if j = i then v else q j := rfl
theorem up_ru : up (fun o (i : Nat) => s o (i : Int)) o x v = fun b (j : Nat) => rs s o (ru (s o) (x : Int) v) b (j : Int) := by
  funext b j
  unfold up rs ru
  by_cases hb : b = o
  · subst hb
    by_cases hj : j = x
    · subst hj; rw [if_pos ⟨rfl, rfl⟩, if_pos rfl, if_pos rfl]
    · rw [if_neg (fun e => hj e.2), if_pos rfl, if_neg (by omega)]
  · rw [if_neg (fun e => hb e.1), if_neg hb]
theorem hp_hi {t : Nat → Nat → Int} : hp z T g w t = hi z T g w (fun o j => t o j.toNat) := rfl
theorem rdI_hi {k : Int32 → XR} (hT : T o = some (.inl (0, n))) (h0 : 0 ≤ i) (h1 : i < n) (hn : n ≤ 100000) : rdI (hi z T g w s) (z + o) (J i) k = k (J (s o i)) := by
  unfold hi
  rw [rdI_hp hT h0 h1 hn, Int.toNat_of_nonneg h0]
theorem rdB_hi {t : Nat} {k : Int32 → XR} (hT : T o = some (.inl (t, n))) (ht : t = 1 ∨ t = 2) (h0 : 0 ≤ i) (h1 : i < n) (hn : n ≤ 100000) : rdB (hi z T g w s) (z + o) (J i) k = k (J (s o i)) := by
  unfold hi
  rw [rdB_hp hT ht h0 h1 hn, Int.toNat_of_nonneg h0]
theorem wrI_hi {k : XH → XR} (hT : T o = some (.inl (0, n))) (h0 : 0 ≤ i) (h1 : i < n) (hn : n ≤ 100000) : wrI (hi z T g w s) (z + o) (J i) (J v) k = k (hi z T g w (rs s o (ru (s o) i v))) := by
  unfold hi
  rw [wrI_hp hT h0 h1 hn, up_ru, Int.toNat_of_nonneg h0]
theorem gI_hi {k : Int32 → XR} (hT : T o = some (.inr (.inr (d, F)))) (hF : F x = 0) : gI (hi z T g w s) (z + o) d x k = k (J (s o x)) := gI_hp hT hF
theorem gR_hi {k : Nat → XR} (hT : T o = some (.inr (.inr (d, F)))) (hF : F x = r + 3) : gR (hi z T g w s) (z + o) d x k = k (z + r) := gR_hp hT hF
theorem gL_hi {k : Int64 → XR} (hT : T o = some (.inr (.inr (d, F)))) (hF : F x = 1) : gL (hi z T g w s) (z + o) d x k = k w := gL_hp hT hF
theorem isO_hi {k : XR} (hT : T o = some (.inr (.inr (d, F)))) : isO (hi z T g w s) (z + o) d k = k := isO_hp hT
theorem pV_hi {k : XH → XR} (hT : T o = some (.inr (.inr (d, F)))) (hF : F x = 0) : pV (hi z T g w s) (z + o) d x (.int (J v)) k = k (hi z T g w (rs s o (ru (s o) x v))) := by
  unfold hi
  rw [pV_hp hT hF, up_ru]
theorem rdR_hi {k : Nat → XR} (hT : T o = some (.inr (.inl (c, n, f)))) (h0 : 0 ≤ i) (h1 : i < n) (hn : n ≤ 100000) : rdR (hi z T g w s) (z + o) (J i) k = k (z + f i.toNat) := rdR_hp hT h0 h1 hn
theorem lnA_hi {t : Nat} {k : Int32 → XR} (hT : T o = some (.inl (t, n))) : lnA (hi z T g w s) (z + o) k = k (J n) := lnA_hp hT
theorem J_i8 (x : Int32) : x.toInt8.toInt32 = J x.toInt8.toInt := rfl
theorem wrB_hi1 {k : XH → XR} {x : Int32} (hT : T o = some (.inl (1, n))) (h0 : 0 ≤ i) (h1 : i < n) (hn : n ≤ 100000) : wrB (hi z T g w s) (z + o) (J i) x k = k (hi z T g w (rs s o (ru (s o) i x.toInt8.toInt))) := by
  have h3 : (J i).toNatClampNeg = i.toNat := J_nat h0 (by omega)
  have h4 : (0 : Int32) ≤ J i := (J_le (a := 0) ⟨by omega, by omega, by omega, by omega⟩).mpr h0
  unfold wrB hi
  rw [hp_at hT]
  show (if 0 ≤ J i ∧ (J i).toNatClampNeg < n then ob (some x.toInt8.toInt32) (fun x => k (xhs (hp z T g w (fun o (i : Nat) => s o (i : Int))) (z + o) (xnum 1 n (upd (fun i => J (s o (i : Nat))) (J i).toNatClampNeg x)))) else none) = _
  rw [if_pos ⟨h4, by rw [h3]; omega⟩, h3]
  show k (xhs (hp z T g w (fun o (i : Nat) => s o (i : Int))) (z + o) (xnum 1 n (upd (fun i => J (s o (i : Nat))) i.toNat (J x.toInt8.toInt)))) = _
  have h5 : xnum 1 n (upd (fun (j : Nat) => J (s o j)) i.toNat (J x.toInt8.toInt)) = ent z w (fun (j : Nat) => rs s o (ru (s o) i x.toInt8.toInt) o (j : Int)) (.inl (1, n)) := by
    show xnum 1 n _ = xnum 1 n _
    congr 1
    funext j
    rw [rs_same]
    unfold upd ru
    by_cases hj : j = i.toNat
    · show (if j = i.toNat then _ else _) = J (if (j : Int) = i then _ else _)
      rw [if_pos hj, if_pos (by omega)]
    · show (if j = i.toNat then _ else _) = J (if (j : Int) = i then _ else _)
      rw [if_neg hj, if_neg (by omega)]
  rw [h5, hp_set (s' := fun b (j : Nat) => rs s o (ru (s o) i x.toInt8.toInt) b (j : Int)) hT (fun b hb => by rw [rs_ne hb]) (fun _ _ _ _ => rfl)]
theorem wrB_hi2 {k : XH → XR} (hT : T o = some (.inl (2, n))) (h0 : 0 ≤ i) (h1 : i < n) (hn : n ≤ 100000) (hv : v = 0 ∨ v = 1) : wrB (hi z T g w s) (z + o) (J i) (J v) k = k (hi z T g w (rs s o (ru (s o) i v))) := by
  have h3 : (J i).toNatClampNeg = i.toNat := J_nat h0 (by omega)
  have h4 : (0 : Int32) ≤ J i := (J_le (a := 0) ⟨by omega, by omega, by omega, by omega⟩).mpr h0
  have h6 : vwB 2 (J v) = some (J v) := by rcases hv with rfl | rfl <;> rfl
  unfold wrB hi
  rw [hp_at hT]
  show (if 0 ≤ J i ∧ (J i).toNatClampNeg < n then ob (vwB 2 (J v)) (fun x => k (xhs (hp z T g w (fun o (i : Nat) => s o (i : Int))) (z + o) (xnum 2 n (upd (fun i => J (s o (i : Nat))) (J i).toNatClampNeg x)))) else none) = _
  rw [if_pos ⟨h4, by rw [h3]; omega⟩, h3, h6]
  show k (xhs (hp z T g w (fun o (i : Nat) => s o (i : Int))) (z + o) (xnum 2 n (upd (fun i => J (s o (i : Nat))) i.toNat (J v)))) = _
  have h5 : xnum 2 n (upd (fun (j : Nat) => J (s o j)) i.toNat (J v)) = ent z w (fun (j : Nat) => rs s o (ru (s o) i v) o (j : Int)) (.inl (2, n)) := by
    show xnum 2 n _ = xnum 2 n _
    congr 1
    funext j
    rw [rs_same]
    unfold upd ru
    by_cases hj : j = i.toNat
    · show (if j = i.toNat then _ else _) = J (if (j : Int) = i then _ else _)
      rw [if_pos hj, if_pos (by omega)]
    · show (if j = i.toNat then _ else _) = J (if (j : Int) = i then _ else _)
      rw [if_neg hj, if_neg (by omega)]
  rw [h5, hp_set (s' := fun b (j : Nat) => rs s o (ru (s o) i v) b (j : Int)) hT (fun b hb => by rw [rs_ne hb]) (fun _ _ _ _ => rfl)]
/-- an array's first n entries from another -/
def cpR (p q : Int → Int) (n : Nat) : Int → Int := fun j => if 0 ≤ j ∧ j < n then p j else q j
theorem cpI_hi {o d m n1 n2 : Nat} {k : XH → XR} (hT : T o = some (.inl (0, n1))) (hD : T d = some (.inl (0, n2))) (hne : o ≠ d) (h1 : m ≤ n1) (h2 : m ≤ n2) (hn : m ≤ 100000) : cpI (hi z T g w s) (z + o) (J 0) (z + d) (J 0) (J m) k = k (hi z T g w (rs s d (cpR (s o) (s d) m))) := by
  unfold hi
  rw [cpI_hp hT hD hne h1 h2 hn]
  congr 2
  funext b j
  unfold cpy rs cpR
  by_cases hb : b = d
  · subst hb
    by_cases hj : j < m
    · rw [if_pos ⟨rfl, hj⟩, if_pos rfl, if_pos ⟨by omega, by omega⟩]
    · rw [if_neg (fun e => hj e.2), if_pos rfl, if_neg (by omega)]
  · rw [if_neg (fun e => hb e.1), if_neg hb]
def cns (p : Int → Int) (n : Nat) (v : Int) : Int → Int := fun j => if 0 ≤ j ∧ j < n then v else p j
theorem fill_hi (hT : T o = some (.inl (0, n))) (hn : n ≤ 15000) : qJA_fill (z + o) (J v) (hi z T g w s) = rV (hi z T g w (rs s o (cns (s o) n v))) := by
  unfold hi
  rw [qJA_fill_hp hT hn]
  congr 3
  funext b j
  unfold fil rs cns
  by_cases hb : b = o
  · subst hb
    by_cases hj : j < n
    · rw [if_pos ⟨rfl, hj⟩, if_pos rfl, if_pos ⟨by omega, by omega⟩]
    · rw [if_neg (fun e => hj e.2), if_pos rfl, if_neg (by omega)]
  · rw [if_neg (fun e => hb e.1), if_neg hb]
theorem hi_lift {x : Int32} {P : Int → Prop} (h : ∀ a : Int, ok32 a → P a) : P x.toInt := h _ ⟨Int32.le_toInt x, Int32.toInt_lt x⟩

theorem gI_M1 {k : Int32 → XR} : gI (hi y TM g w m) y 9 1 k = k (J (m 0 1)) := gI_hi (o := 0) TM_0 rfl
theorem pV_M1 {k : XH → XR} : pV (hi y TM g w m) y 9 1 (.int (J v)) k = k (hi y TM g w (rs m 0 (ru (m 0) 1 v))) := pV_hi (o := 0) TM_0 rfl
theorem gI_M2 {k : Int32 → XR} : gI (hi y TM g w m) y 9 2 k = k (J (m 0 2)) := gI_hi (o := 0) TM_0 rfl
theorem pV_M2 {k : XH → XR} : pV (hi y TM g w m) y 9 2 (.int (J v)) k = k (hi y TM g w (rs m 0 (ru (m 0) 2 v))) := pV_hi (o := 0) TM_0 rfl
theorem gI_M3 {k : Int32 → XR} : gI (hi y TM g w m) y 9 3 k = k (J (m 0 3)) := gI_hi (o := 0) TM_0 rfl
theorem pV_M3 {k : XH → XR} : pV (hi y TM g w m) y 9 3 (.int (J v)) k = k (hi y TM g w (rs m 0 (ru (m 0) 3 v))) := pV_hi (o := 0) TM_0 rfl
theorem gI_M4 {k : Int32 → XR} : gI (hi y TM g w m) y 9 4 k = k (J (m 0 4)) := gI_hi (o := 0) TM_0 rfl
theorem pV_M4 {k : XH → XR} : pV (hi y TM g w m) y 9 4 (.int (J v)) k = k (hi y TM g w (rs m 0 (ru (m 0) 4 v))) := pV_hi (o := 0) TM_0 rfl
theorem gI_M5 {k : Int32 → XR} : gI (hi y TM g w m) y 9 5 k = k (J (m 0 5)) := gI_hi (o := 0) TM_0 rfl
theorem pV_M5 {k : XH → XR} : pV (hi y TM g w m) y 9 5 (.int (J v)) k = k (hi y TM g w (rs m 0 (ru (m 0) 5 v))) := pV_hi (o := 0) TM_0 rfl
theorem gI_M6 {k : Int32 → XR} : gI (hi y TM g w m) y 9 6 k = k (J (m 0 6)) := gI_hi (o := 0) TM_0 rfl
theorem pV_M6 {k : XH → XR} : pV (hi y TM g w m) y 9 6 (.int (J v)) k = k (hi y TM g w (rs m 0 (ru (m 0) 6 v))) := pV_hi (o := 0) TM_0 rfl
theorem gI_M13 {k : Int32 → XR} : gI (hi y TM g w m) y 9 13 k = k (J (m 0 13)) := gI_hi (o := 0) TM_0 rfl
theorem pV_M13 {k : XH → XR} : pV (hi y TM g w m) y 9 13 (.int (J v)) k = k (hi y TM g w (rs m 0 (ru (m 0) 13 v))) := pV_hi (o := 0) TM_0 rfl
theorem gI_M22 {k : Int32 → XR} : gI (hi y TM g w m) y 9 22 k = k (J (m 0 22)) := gI_hi (o := 0) TM_0 rfl
theorem pV_M22 {k : XH → XR} : pV (hi y TM g w m) y 9 22 (.int (J v)) k = k (hi y TM g w (rs m 0 (ru (m 0) 22 v))) := pV_hi (o := 0) TM_0 rfl
theorem gI_M23 {k : Int32 → XR} : gI (hi y TM g w m) y 9 23 k = k (J (m 0 23)) := gI_hi (o := 0) TM_0 rfl
theorem pV_M23 {k : XH → XR} : pV (hi y TM g w m) y 9 23 (.int (J v)) k = k (hi y TM g w (rs m 0 (ru (m 0) 23 v))) := pV_hi (o := 0) TM_0 rfl
theorem gI_M24 {k : Int32 → XR} : gI (hi y TM g w m) y 9 24 k = k (J (m 0 24)) := gI_hi (o := 0) TM_0 rfl
theorem pV_M24 {k : XH → XR} : pV (hi y TM g w m) y 9 24 (.int (J v)) k = k (hi y TM g w (rs m 0 (ru (m 0) 24 v))) := pV_hi (o := 0) TM_0 rfl
theorem gI_M25 {k : Int32 → XR} : gI (hi y TM g w m) y 9 25 k = k (J (m 0 25)) := gI_hi (o := 0) TM_0 rfl
theorem pV_M25 {k : XH → XR} : pV (hi y TM g w m) y 9 25 (.int (J v)) k = k (hi y TM g w (rs m 0 (ru (m 0) 25 v))) := pV_hi (o := 0) TM_0 rfl
theorem gI_M27 {k : Int32 → XR} : gI (hi y TM g w m) y 9 27 k = k (J (m 0 27)) := gI_hi (o := 0) TM_0 rfl
theorem pV_M27 {k : XH → XR} : pV (hi y TM g w m) y 9 27 (.int (J v)) k = k (hi y TM g w (rs m 0 (ru (m 0) 27 v))) := pV_hi (o := 0) TM_0 rfl
theorem gI_M28 {k : Int32 → XR} : gI (hi y TM g w m) y 9 28 k = k (J (m 0 28)) := gI_hi (o := 0) TM_0 rfl
theorem pV_M28 {k : XH → XR} : pV (hi y TM g w m) y 9 28 (.int (J v)) k = k (hi y TM g w (rs m 0 (ru (m 0) 28 v))) := pV_hi (o := 0) TM_0 rfl
theorem gI_M29 {k : Int32 → XR} : gI (hi y TM g w m) y 9 29 k = k (J (m 0 29)) := gI_hi (o := 0) TM_0 rfl
theorem pV_M29 {k : XH → XR} : pV (hi y TM g w m) y 9 29 (.int (J v)) k = k (hi y TM g w (rs m 0 (ru (m 0) 29 v))) := pV_hi (o := 0) TM_0 rfl
theorem gI_M30 {k : Int32 → XR} : gI (hi y TM g w m) y 9 30 k = k (J (m 0 30)) := gI_hi (o := 0) TM_0 rfl
theorem pV_M30 {k : XH → XR} : pV (hi y TM g w m) y 9 30 (.int (J v)) k = k (hi y TM g w (rs m 0 (ru (m 0) 30 v))) := pV_hi (o := 0) TM_0 rfl
theorem gI_M31 {k : Int32 → XR} : gI (hi y TM g w m) y 9 31 k = k (J (m 0 31)) := gI_hi (o := 0) TM_0 rfl
theorem pV_M31 {k : XH → XR} : pV (hi y TM g w m) y 9 31 (.int (J v)) k = k (hi y TM g w (rs m 0 (ru (m 0) 31 v))) := pV_hi (o := 0) TM_0 rfl
theorem gI_M32 {k : Int32 → XR} : gI (hi y TM g w m) y 9 32 k = k (J (m 0 32)) := gI_hi (o := 0) TM_0 rfl
theorem pV_M32 {k : XH → XR} : pV (hi y TM g w m) y 9 32 (.int (J v)) k = k (hi y TM g w (rs m 0 (ru (m 0) 32 v))) := pV_hi (o := 0) TM_0 rfl
theorem gI_M33 {k : Int32 → XR} : gI (hi y TM g w m) y 9 33 k = k (J (m 0 33)) := gI_hi (o := 0) TM_0 rfl
theorem pV_M33 {k : XH → XR} : pV (hi y TM g w m) y 9 33 (.int (J v)) k = k (hi y TM g w (rs m 0 (ru (m 0) 33 v))) := pV_hi (o := 0) TM_0 rfl
theorem gI_M34 {k : Int32 → XR} : gI (hi y TM g w m) y 9 34 k = k (J (m 0 34)) := gI_hi (o := 0) TM_0 rfl
theorem pV_M34 {k : XH → XR} : pV (hi y TM g w m) y 9 34 (.int (J v)) k = k (hi y TM g w (rs m 0 (ru (m 0) 34 v))) := pV_hi (o := 0) TM_0 rfl
theorem gI_M35 {k : Int32 → XR} : gI (hi y TM g w m) y 9 35 k = k (J (m 0 35)) := gI_hi (o := 0) TM_0 rfl
theorem pV_M35 {k : XH → XR} : pV (hi y TM g w m) y 9 35 (.int (J v)) k = k (hi y TM g w (rs m 0 (ru (m 0) 35 v))) := pV_hi (o := 0) TM_0 rfl
theorem gI_M40 {k : Int32 → XR} : gI (hi y TM g w m) y 9 40 k = k (J (m 0 40)) := gI_hi (o := 0) TM_0 rfl
theorem pV_M40 {k : XH → XR} : pV (hi y TM g w m) y 9 40 (.int (J v)) k = k (hi y TM g w (rs m 0 (ru (m 0) 40 v))) := pV_hi (o := 0) TM_0 rfl
theorem gI_M41 {k : Int32 → XR} : gI (hi y TM g w m) y 9 41 k = k (J (m 0 41)) := gI_hi (o := 0) TM_0 rfl
theorem pV_M41 {k : XH → XR} : pV (hi y TM g w m) y 9 41 (.int (J v)) k = k (hi y TM g w (rs m 0 (ru (m 0) 41 v))) := pV_hi (o := 0) TM_0 rfl
theorem gI_M42 {k : Int32 → XR} : gI (hi y TM g w m) y 9 42 k = k (J (m 0 42)) := gI_hi (o := 0) TM_0 rfl
theorem pV_M42 {k : XH → XR} : pV (hi y TM g w m) y 9 42 (.int (J v)) k = k (hi y TM g w (rs m 0 (ru (m 0) 42 v))) := pV_hi (o := 0) TM_0 rfl
theorem gI_M43 {k : Int32 → XR} : gI (hi y TM g w m) y 9 43 k = k (J (m 0 43)) := gI_hi (o := 0) TM_0 rfl
theorem pV_M43 {k : XH → XR} : pV (hi y TM g w m) y 9 43 (.int (J v)) k = k (hi y TM g w (rs m 0 (ru (m 0) 43 v))) := pV_hi (o := 0) TM_0 rfl
theorem gR_M0 {k : Nat → XR} : gR (hi y TM g w m) y 9 0 k = k (y + 1) := gR_hi (o := 0) TM_0 rfl
theorem gR_M7 {k : Nat → XR} : gR (hi y TM g w m) y 9 7 k = k (y + 2) := gR_hi (o := 0) TM_0 rfl
theorem gR_M8 {k : Nat → XR} : gR (hi y TM g w m) y 9 8 k = k (y + 3) := gR_hi (o := 0) TM_0 rfl
theorem gR_M9 {k : Nat → XR} : gR (hi y TM g w m) y 9 9 k = k (y + 4) := gR_hi (o := 0) TM_0 rfl
theorem gR_M10 {k : Nat → XR} : gR (hi y TM g w m) y 9 10 k = k (y + 5) := gR_hi (o := 0) TM_0 rfl
theorem gR_M11 {k : Nat → XR} : gR (hi y TM g w m) y 9 11 k = k (y + 6) := gR_hi (o := 0) TM_0 rfl
theorem gR_M12 {k : Nat → XR} : gR (hi y TM g w m) y 9 12 k = k (y + 7) := gR_hi (o := 0) TM_0 rfl
theorem gR_M14 {k : Nat → XR} : gR (hi y TM g w m) y 9 14 k = k (y + 8) := gR_hi (o := 0) TM_0 rfl
theorem gR_M15 {k : Nat → XR} : gR (hi y TM g w m) y 9 15 k = k (y + 9) := gR_hi (o := 0) TM_0 rfl
theorem gR_M16 {k : Nat → XR} : gR (hi y TM g w m) y 9 16 k = k (y + 10) := gR_hi (o := 0) TM_0 rfl
theorem gR_M17 {k : Nat → XR} : gR (hi y TM g w m) y 9 17 k = k (y + 11) := gR_hi (o := 0) TM_0 rfl
theorem gR_M18 {k : Nat → XR} : gR (hi y TM g w m) y 9 18 k = k (y + 12) := gR_hi (o := 0) TM_0 rfl
theorem gR_M19 {k : Nat → XR} : gR (hi y TM g w m) y 9 19 k = k (y + 13) := gR_hi (o := 0) TM_0 rfl
theorem gR_M20 {k : Nat → XR} : gR (hi y TM g w m) y 9 20 k = k (y + 14) := gR_hi (o := 0) TM_0 rfl
theorem gR_M21 {k : Nat → XR} : gR (hi y TM g w m) y 9 21 k = k (y + 15) := gR_hi (o := 0) TM_0 rfl
theorem gR_M36 {k : Nat → XR} : gR (hi y TM g w m) y 9 36 k = k (y + 16) := gR_hi (o := 0) TM_0 rfl
theorem gR_M37 {k : Nat → XR} : gR (hi y TM g w m) y 9 37 k = k (y + 17) := gR_hi (o := 0) TM_0 rfl
theorem gR_M38 {k : Nat → XR} : gR (hi y TM g w m) y 9 38 k = k (y + 18) := gR_hi (o := 0) TM_0 rfl
theorem gR_M39 {k : Nat → XR} : gR (hi y TM g w m) y 9 39 k = k (y + 19) := gR_hi (o := 0) TM_0 rfl
theorem gL_H {k : Int64 → XR} : gL (hi y TM g w m) y 9 26 k = k w := gL_hi (o := 0) TM_0 rfl
theorem pL_H {k : XH → XR} : pV (hi y TM g w m) y 9 26 (.long w') k = k (hi y TM g w' m) := by
  unfold pV hi
  rw [show (hp y TM g w (fun o (i : Nat) => m o (i : Int))).2 y = _ from hp_at (o := 0) TM_0]
  show (if (9 : Nat) = 9 then k (xhs (hp y TM g w (fun o (i : Nat) => m o (i : Int))) (y + 0) (xobj 9 (updV (fun x => match slot slM 0 x with
    | 0 => Value.int (J (m 0 (x : Nat)))
    | 1 => .long w
    | 2 => .null
    | o + 3 => .ref (y + o)) 26 (.long w')))) else none) = _
  rw [if_pos rfl]
  have h5 : xobj 9 (updV (fun x => match slot slM 0 x with
    | 0 => Value.int (J (m 0 (x : Nat)))
    | 1 => .long w
    | 2 => .null
    | o + 3 => .ref (y + o)) 26 (.long w')) = ent y w' (fun (j : Nat) => m 0 (j : Int)) (.inr (.inr (9, slot slM 0))) := by
    show xobj 9 _ = xobj 9 _
    congr 1
    funext j
    unfold updV
    by_cases hj : j = 26
    · subst hj; rfl
    · rw [if_neg hj]
      have h6 : slot slM 0 j ≠ 1 := by
        intro h6
        by_cases hj2 : j < 44
        · have : ∀ i : Fin 44, slot slM 0 i.1 = 1 → i.1 = 26 := by decide
          exact hj (this ⟨j, hj2⟩ h6)
        · unfold slot at h6
          rw [List.getD_eq_getElem?_getD, List.getElem?_eq_none (by show slM.length ≤ j; show 40 ≤ j; omega)] at h6
          exact absurd h6 (by decide)
      split <;> simp_all
  rw [h5, hp_set (s' := fun o (i : Nat) => m o (i : Int)) TM_0 (fun b hb => rfl) (fun b sh' hb hT => ?_)]
  cases b with
  | zero => exact absurd rfl hb
  | succ b =>
    have h7 : ∃ t n, sh' = .inl (t, n) := by
      unfold TM at hT
      split at hT <;> first | omega | (cases hT; exact ⟨_, _, rfl⟩) | (cases hT)
    obtain ⟨t, n, rfl⟩ := h7
    rfl
theorem isO_M {k : XR} : isO (hi y TM g w m) y 9 k = k := isO_hi (o := 0) TM_0
theorem rd_M1 {k : Int32 → XR} (h : 0 ≤ i ∧ i < 1000) : rdB (hi y TM g w m) (y + 1) (J i) k = k (J (m 1 i)) := rdB_hi (o := 1) (n := 1000) rfl (by decide) h.1 h.2 (by decide)
theorem rd_M2 {k : Int32 → XR} (h : 0 ≤ i ∧ i < 8) : rdI (hi y TM g w m) (y + 2) (J i) k = k (J (m 2 i)) := rdI_hi (o := 2) (n := 8) rfl h.1 h.2 (by decide)
theorem wr_M2 {k : XH → XR} (h : 0 ≤ i ∧ i < 8) : wrI (hi y TM g w m) (y + 2) (J i) (J v) k = k (hi y TM g w (rs m 2 (ru (m 2) i v))) := wrI_hi (o := 2) (n := 8) rfl h.1 h.2 (by decide)
theorem rd_M3 {k : Int32 → XR} (h : 0 ≤ i ∧ i < 1784) : rdI (hi y TM g w m) (y + 3) (J i) k = k (J (m 3 i)) := rdI_hi (o := 3) (n := 1784) rfl h.1 h.2 (by decide)
theorem wr_M3 {k : XH → XR} (h : 0 ≤ i ∧ i < 1784) : wrI (hi y TM g w m) (y + 3) (J i) (J v) k = k (hi y TM g w (rs m 3 (ru (m 3) i v))) := wrI_hi (o := 3) (n := 1784) rfl h.1 h.2 (by decide)
theorem rd_M4 {k : Int32 → XR} (h : 0 ≤ i ∧ i < 1784) : rdI (hi y TM g w m) (y + 4) (J i) k = k (J (m 4 i)) := rdI_hi (o := 4) (n := 1784) rfl h.1 h.2 (by decide)
theorem wr_M4 {k : XH → XR} (h : 0 ≤ i ∧ i < 1784) : wrI (hi y TM g w m) (y + 4) (J i) (J v) k = k (hi y TM g w (rs m 4 (ru (m 4) i v))) := wrI_hi (o := 4) (n := 1784) rfl h.1 h.2 (by decide)
theorem rd_M5 {k : Int32 → XR} (h : 0 ≤ i ∧ i < 14272) : rdI (hi y TM g w m) (y + 5) (J i) k = k (J (m 5 i)) := rdI_hi (o := 5) (n := 14272) rfl h.1 h.2 (by decide)
theorem wr_M5 {k : XH → XR} (h : 0 ≤ i ∧ i < 14272) : wrI (hi y TM g w m) (y + 5) (J i) (J v) k = k (hi y TM g w (rs m 5 (ru (m 5) i v))) := wrI_hi (o := 5) (n := 14272) rfl h.1 h.2 (by decide)
theorem rd_M6 {k : Int32 → XR} (h : 0 ≤ i ∧ i < 3568) : rdI (hi y TM g w m) (y + 6) (J i) k = k (J (m 6 i)) := rdI_hi (o := 6) (n := 3568) rfl h.1 h.2 (by decide)
theorem wr_M6 {k : XH → XR} (h : 0 ≤ i ∧ i < 3568) : wrI (hi y TM g w m) (y + 6) (J i) (J v) k = k (hi y TM g w (rs m 6 (ru (m 6) i v))) := wrI_hi (o := 6) (n := 3568) rfl h.1 h.2 (by decide)
theorem rd_M7 {k : Int32 → XR} (h : 0 ≤ i ∧ i < 2) : rdB (hi y TM g w m) (y + 7) (J i) k = k (J (m 7 i)) := rdB_hi (o := 7) (n := 2) rfl (by decide) h.1 h.2 (by decide)
theorem rd_M8 {k : Int32 → XR} (h : 0 ≤ i ∧ i < 8) : rdI (hi y TM g w m) (y + 8) (J i) k = k (J (m 8 i)) := rdI_hi (o := 8) (n := 8) rfl h.1 h.2 (by decide)
theorem wr_M8 {k : XH → XR} (h : 0 ≤ i ∧ i < 8) : wrI (hi y TM g w m) (y + 8) (J i) (J v) k = k (hi y TM g w (rs m 8 (ru (m 8) i v))) := wrI_hi (o := 8) (n := 8) rfl h.1 h.2 (by decide)
theorem rd_M9 {k : Int32 → XR} (h : 0 ≤ i ∧ i < 3200) : rdI (hi y TM g w m) (y + 9) (J i) k = k (J (m 9 i)) := rdI_hi (o := 9) (n := 3200) rfl h.1 h.2 (by decide)
theorem wr_M9 {k : XH → XR} (h : 0 ≤ i ∧ i < 3200) : wrI (hi y TM g w m) (y + 9) (J i) (J v) k = k (hi y TM g w (rs m 9 (ru (m 9) i v))) := wrI_hi (o := 9) (n := 3200) rfl h.1 h.2 (by decide)
theorem rd_M10 {k : Int32 → XR} (h : 0 ≤ i ∧ i < 1600) : rdI (hi y TM g w m) (y + 10) (J i) k = k (J (m 10 i)) := rdI_hi (o := 10) (n := 1600) rfl h.1 h.2 (by decide)
theorem wr_M10 {k : XH → XR} (h : 0 ≤ i ∧ i < 1600) : wrI (hi y TM g w m) (y + 10) (J i) (J v) k = k (hi y TM g w (rs m 10 (ru (m 10) i v))) := wrI_hi (o := 10) (n := 1600) rfl h.1 h.2 (by decide)
theorem rd_M11 {k : Int32 → XR} (h : 0 ≤ i ∧ i < 6400) : rdI (hi y TM g w m) (y + 11) (J i) k = k (J (m 11 i)) := rdI_hi (o := 11) (n := 6400) rfl h.1 h.2 (by decide)
theorem wr_M11 {k : XH → XR} (h : 0 ≤ i ∧ i < 6400) : wrI (hi y TM g w m) (y + 11) (J i) (J v) k = k (hi y TM g w (rs m 11 (ru (m 11) i v))) := wrI_hi (o := 11) (n := 6400) rfl h.1 h.2 (by decide)
theorem rd_M12 {k : Int32 → XR} (h : 0 ≤ i ∧ i < 1600) : rdI (hi y TM g w m) (y + 12) (J i) k = k (J (m 12 i)) := rdI_hi (o := 12) (n := 1600) rfl h.1 h.2 (by decide)
theorem wr_M12 {k : XH → XR} (h : 0 ≤ i ∧ i < 1600) : wrI (hi y TM g w m) (y + 12) (J i) (J v) k = k (hi y TM g w (rs m 12 (ru (m 12) i v))) := wrI_hi (o := 12) (n := 1600) rfl h.1 h.2 (by decide)
theorem rd_M13 {k : Int32 → XR} (h : 0 ≤ i ∧ i < 1600) : rdI (hi y TM g w m) (y + 13) (J i) k = k (J (m 13 i)) := rdI_hi (o := 13) (n := 1600) rfl h.1 h.2 (by decide)
theorem wr_M13 {k : XH → XR} (h : 0 ≤ i ∧ i < 1600) : wrI (hi y TM g w m) (y + 13) (J i) (J v) k = k (hi y TM g w (rs m 13 (ru (m 13) i v))) := wrI_hi (o := 13) (n := 1600) rfl h.1 h.2 (by decide)
theorem rd_M14 {k : Int32 → XR} (h : 0 ≤ i ∧ i < 1600) : rdI (hi y TM g w m) (y + 14) (J i) k = k (J (m 14 i)) := rdI_hi (o := 14) (n := 1600) rfl h.1 h.2 (by decide)
theorem wr_M14 {k : XH → XR} (h : 0 ≤ i ∧ i < 1600) : wrI (hi y TM g w m) (y + 14) (J i) (J v) k = k (hi y TM g w (rs m 14 (ru (m 14) i v))) := wrI_hi (o := 14) (n := 1600) rfl h.1 h.2 (by decide)
theorem rd_M15 {k : Int32 → XR} (h : 0 ≤ i ∧ i < 1600) : rdI (hi y TM g w m) (y + 15) (J i) k = k (J (m 15 i)) := rdI_hi (o := 15) (n := 1600) rfl h.1 h.2 (by decide)
theorem wr_M15 {k : XH → XR} (h : 0 ≤ i ∧ i < 1600) : wrI (hi y TM g w m) (y + 15) (J i) (J v) k = k (hi y TM g w (rs m 15 (ru (m 15) i v))) := wrI_hi (o := 15) (n := 1600) rfl h.1 h.2 (by decide)
theorem rd_M16 {k : Int32 → XR} (h : 0 ≤ i ∧ i < 8) : rdI (hi y TM g w m) (y + 16) (J i) k = k (J (m 16 i)) := rdI_hi (o := 16) (n := 8) rfl h.1 h.2 (by decide)
theorem wr_M16 {k : XH → XR} (h : 0 ≤ i ∧ i < 8) : wrI (hi y TM g w m) (y + 16) (J i) (J v) k = k (hi y TM g w (rs m 16 (ru (m 16) i v))) := wrI_hi (o := 16) (n := 8) rfl h.1 h.2 (by decide)
theorem rd_M17 {k : Int32 → XR} (h : 0 ≤ i ∧ i < 184) : rdI (hi y TM g w m) (y + 17) (J i) k = k (J (m 17 i)) := rdI_hi (o := 17) (n := 184) rfl h.1 h.2 (by decide)
theorem wr_M17 {k : XH → XR} (h : 0 ≤ i ∧ i < 184) : wrI (hi y TM g w m) (y + 17) (J i) (J v) k = k (hi y TM g w (rs m 17 (ru (m 17) i v))) := wrI_hi (o := 17) (n := 184) rfl h.1 h.2 (by decide)
theorem rd_M18 {k : Int32 → XR} (h : 0 ≤ i ∧ i < 1600) : rdI (hi y TM g w m) (y + 18) (J i) k = k (J (m 18 i)) := rdI_hi (o := 18) (n := 1600) rfl h.1 h.2 (by decide)
theorem wr_M18 {k : XH → XR} (h : 0 ≤ i ∧ i < 1600) : wrI (hi y TM g w m) (y + 18) (J i) (J v) k = k (hi y TM g w (rs m 18 (ru (m 18) i v))) := wrI_hi (o := 18) (n := 1600) rfl h.1 h.2 (by decide)
theorem rd_M19 {k : Int32 → XR} (h : 0 ≤ i ∧ i < 1600) : rdI (hi y TM g w m) (y + 19) (J i) k = k (J (m 19 i)) := rdI_hi (o := 19) (n := 1600) rfl h.1 h.2 (by decide)
theorem wr_M19 {k : XH → XR} (h : 0 ≤ i ∧ i < 1600) : wrI (hi y TM g w m) (y + 19) (J i) (J v) k = k (hi y TM g w (rs m 19 (ru (m 19) i v))) := wrI_hi (o := 19) (n := 1600) rfl h.1 h.2 (by decide)
theorem wr_M1 {k : XH → XR} {x : Int32} (h : 0 ≤ i ∧ i < 1000) : wrB (hi y TM g w m) (y + 1) (J i) x k = k (hi y TM g w (rs m 1 (ru (m 1) i x.toInt8.toInt))) := wrB_hi1 (o := 1) (n := 1000) rfl h.1 h.2 (by decide)
theorem wr_M7 {k : XH → XR} (h : 0 ≤ i ∧ i < 2) (hv : v = 0 ∨ v = 1) : wrB (hi y TM g w m) (y + 7) (J i) (J v) k = k (hi y TM g w (rs m 7 (ru (m 7) i v))) := wrB_hi2 (o := 7) (n := 2) rfl h.1 h.2 (by decide) hv
theorem gR_D0 {k : Nat → XR} : gR (hi z TD g w s) z 8 0 k = k (z + 1) := gR_hi (o := 0) (T := TD) rfl rfl
theorem gR_D1 {k : Nat → XR} : gR (hi z TD g w s) z 8 1 k = k (z + 3) := gR_hi (o := 0) (T := TD) rfl rfl
theorem gR_D2 {k : Nat → XR} : gR (hi z TD g w s) z 8 2 k = k (z + 5) := gR_hi (o := 0) (T := TD) rfl rfl
theorem gR_D3 {k : Nat → XR} : gR (hi z TD g w s) z 8 3 k = k (z + 6) := gR_hi (o := 0) (T := TD) rfl rfl
theorem gR_D4 {k : Nat → XR} : gR (hi z TD g w s) z 8 4 k = k (z + 35) := gR_hi (o := 0) (T := TD) rfl rfl
theorem gR_D5 {k : Nat → XR} : gR (hi z TD g w s) z 8 5 k = k (z + 64) := gR_hi (o := 0) (T := TD) rfl rfl
theorem gR_D6 {k : Nat → XR} : gR (hi z TD g w s) z 8 6 k = k (z + 65) := gR_hi (o := 0) (T := TD) rfl rfl
theorem gR_D7 {k : Nat → XR} : gR (hi z TD g w s) z 8 7 k = k (z + 66) := gR_hi (o := 0) (T := TD) rfl rfl
theorem gR_D8 {k : Nat → XR} : gR (hi z TD g w s) z 8 8 k = k (z + 300) := gR_hi (o := 0) (T := TD) rfl rfl
theorem gR_D9 {k : Nat → XR} : gR (hi z TD g w s) z 8 9 k = k (z + 308) := gR_hi (o := 0) (T := TD) rfl rfl
theorem gR_D10 {k : Nat → XR} : gR (hi z TD g w s) z 8 10 k = k (z + 310) := gR_hi (o := 0) (T := TD) rfl rfl
theorem gI_D11 {k : Int32 → XR} : gI (hi z TD g w s) z 8 11 k = k (J (s 0 11)) := gI_hi (o := 0) (T := TD) rfl rfl
theorem pV_D11 {k : XH → XR} : pV (hi z TD g w s) z 8 11 (.int (J v)) k = k (hi z TD g w (rs s 0 (ru (s 0) 11 v))) := pV_hi (o := 0) (T := TD) rfl rfl
theorem isO_D {k : XR} : isO (hi z TD g w s) z 8 k = k := isO_hi (o := 0) (T := TD) rfl
theorem gI_T0 {k : Int32 → XR} : gI (hi z TD g w s) (z + 1) 6 0 k = k (J (s 1 0)) := gI_hi (o := 1) (T := TD) rfl rfl
theorem pV_T0 {k : XH → XR} : pV (hi z TD g w s) (z + 1) 6 0 (.int (J v)) k = k (hi z TD g w (rs s 1 (ru (s 1) 0 v))) := pV_hi (o := 1) (T := TD) rfl rfl
theorem gR_T1 {k : Nat → XR} : gR (hi z TD g w s) (z + 1) 6 1 k = k (z + 2) := gR_hi (o := 1) (T := TD) rfl rfl
theorem isO_T {k : XR} : isO (hi z TD g w s) (z + 1) 6 k = k := isO_hi (o := 1) (T := TD) rfl
theorem rd_T2 {k : Int32 → XR} (h : 0 ≤ i ∧ i < 1000) : rdB (hi z TD g w s) (z + 2) (J i) k = k (J (s 2 i)) := rdB_hi (o := 2) (T := TD) (n := 1000) rfl (by decide) h.1 h.2 (by decide)
theorem wr_T2 {k : XH → XR} {x : Int32} (h : 0 ≤ i ∧ i < 1000) : wrB (hi z TD g w s) (z + 2) (J i) x k = k (hi z TD g w (rs s 2 (ru (s 2) i x.toInt8.toInt))) := wrB_hi1 (o := 2) (T := TD) (n := 1000) rfl h.1 h.2 (by decide)
theorem gI_U0 {k : Int32 → XR} : gI (hi z TD g w s) (z + 3) 6 0 k = k (J (s 3 0)) := gI_hi (o := 3) (T := TD) rfl rfl
theorem pV_U0 {k : XH → XR} : pV (hi z TD g w s) (z + 3) 6 0 (.int (J v)) k = k (hi z TD g w (rs s 3 (ru (s 3) 0 v))) := pV_hi (o := 3) (T := TD) rfl rfl
theorem gR_U1 {k : Nat → XR} : gR (hi z TD g w s) (z + 3) 6 1 k = k (z + 4) := gR_hi (o := 3) (T := TD) rfl rfl
theorem isO_U {k : XR} : isO (hi z TD g w s) (z + 3) 6 k = k := isO_hi (o := 3) (T := TD) rfl
theorem rd_U2 {k : Int32 → XR} (h : 0 ≤ i ∧ i < 1000) : rdB (hi z TD g w s) (z + 4) (J i) k = k (J (s 4 i)) := rdB_hi (o := 4) (T := TD) (n := 1000) rfl (by decide) h.1 h.2 (by decide)
theorem wr_U2 {k : XH → XR} {x : Int32} (h : 0 ≤ i ∧ i < 1000) : wrB (hi z TD g w s) (z + 4) (J i) x k = k (hi z TD g w (rs s 4 (ru (s 4) i x.toInt8.toInt))) := wrB_hi1 (o := 4) (T := TD) (n := 1000) rfl h.1 h.2 (by decide)
theorem gI_Ps0 {k : Int32 → XR} : gI (hi z TD g w s) (z + 5) 4 0 k = k (J (s 5 0)) := gI_hi (o := 5) (T := TD) rfl rfl
theorem pV_Ps0 {k : XH → XR} : pV (hi z TD g w s) (z + 5) 4 0 (.int (J v)) k = k (hi z TD g w (rs s 5 (ru (s 5) 0 v))) := pV_hi (o := 5) (T := TD) rfl rfl
theorem gI_Ps1 {k : Int32 → XR} : gI (hi z TD g w s) (z + 5) 4 1 k = k (J (s 5 1)) := gI_hi (o := 5) (T := TD) rfl rfl
theorem pV_Ps1 {k : XH → XR} : pV (hi z TD g w s) (z + 5) 4 1 (.int (J v)) k = k (hi z TD g w (rs s 5 (ru (s 5) 1 v))) := pV_hi (o := 5) (T := TD) rfl rfl
theorem gI_Ps2 {k : Int32 → XR} : gI (hi z TD g w s) (z + 5) 4 2 k = k (J (s 5 2)) := gI_hi (o := 5) (T := TD) rfl rfl
theorem pV_Ps2 {k : XH → XR} : pV (hi z TD g w s) (z + 5) 4 2 (.int (J v)) k = k (hi z TD g w (rs s 5 (ru (s 5) 2 v))) := pV_hi (o := 5) (T := TD) rfl rfl
theorem gI_Ps3 {k : Int32 → XR} : gI (hi z TD g w s) (z + 5) 4 3 k = k (J (s 5 3)) := gI_hi (o := 5) (T := TD) rfl rfl
theorem pV_Ps3 {k : XH → XR} : pV (hi z TD g w s) (z + 5) 4 3 (.int (J v)) k = k (hi z TD g w (rs s 5 (ru (s 5) 3 v))) := pV_hi (o := 5) (T := TD) rfl rfl
theorem gI_Ps4 {k : Int32 → XR} : gI (hi z TD g w s) (z + 5) 4 4 k = k (J (s 5 4)) := gI_hi (o := 5) (T := TD) rfl rfl
theorem pV_Ps4 {k : XH → XR} : pV (hi z TD g w s) (z + 5) 4 4 (.int (J v)) k = k (hi z TD g w (rs s 5 (ru (s 5) 4 v))) := pV_hi (o := 5) (T := TD) rfl rfl
theorem isO_Ps {k : XR} : isO (hi z TD g w s) (z + 5) 4 k = k := isO_hi (o := 5) (T := TD) rfl
theorem gI_N0 {k : Int32 → XR} : gI (hi z TD g w s) (z + 6) 5 0 k = k (J (s 6 0)) := gI_hi (o := 6) (T := TD) rfl rfl
theorem pV_N0 {k : XH → XR} : pV (hi z TD g w s) (z + 6) 5 0 (.int (J v)) k = k (hi z TD g w (rs s 6 (ru (s 6) 0 v))) := pV_hi (o := 6) (T := TD) rfl rfl
theorem gI_N1 {k : Int32 → XR} : gI (hi z TD g w s) (z + 6) 5 1 k = k (J (s 6 1)) := gI_hi (o := 6) (T := TD) rfl rfl
theorem pV_N1 {k : XH → XR} : pV (hi z TD g w s) (z + 6) 5 1 (.int (J v)) k = k (hi z TD g w (rs s 6 (ru (s 6) 1 v))) := pV_hi (o := 6) (T := TD) rfl rfl
theorem gI_N2 {k : Int32 → XR} : gI (hi z TD g w s) (z + 6) 5 2 k = k (J (s 6 2)) := gI_hi (o := 6) (T := TD) rfl rfl
theorem pV_N2 {k : XH → XR} : pV (hi z TD g w s) (z + 6) 5 2 (.int (J v)) k = k (hi z TD g w (rs s 6 (ru (s 6) 2 v))) := pV_hi (o := 6) (T := TD) rfl rfl
theorem gI_N3 {k : Int32 → XR} : gI (hi z TD g w s) (z + 6) 5 3 k = k (J (s 6 3)) := gI_hi (o := 6) (T := TD) rfl rfl
theorem pV_N3 {k : XH → XR} : pV (hi z TD g w s) (z + 6) 5 3 (.int (J v)) k = k (hi z TD g w (rs s 6 (ru (s 6) 3 v))) := pV_hi (o := 6) (T := TD) rfl rfl
theorem gR_N4 {k : Nat → XR} : gR (hi z TD g w s) (z + 6) 5 4 k = k (z + 7) := gR_hi (o := 6) (T := TD) rfl rfl
theorem gR_N5 {k : Nat → XR} : gR (hi z TD g w s) (z + 6) 5 5 k = k (z + 8) := gR_hi (o := 6) (T := TD) rfl rfl
theorem isO_N {k : XR} : isO (hi z TD g w s) (z + 6) 5 k = k := isO_hi (o := 6) (T := TD) rfl
theorem rd_NL {k : Nat → XR} (h : 0 ≤ i ∧ i < 8) : rdR (hi z TD g w s) (z + 7) (J i) k = k (z + (11 + 3 * i.toNat)) := rdR_hi (o := 7) (T := TD) (n := 8) rfl h.1 h.2 (by decide)
theorem gI_NB0 {k : Int32 → XR} : gI (hi z TD g w s) (z + 8) 2 0 k = k (J (s 8 0)) := gI_hi (o := 8) (T := TD) rfl rfl
theorem pV_NB0 {k : XH → XR} : pV (hi z TD g w s) (z + 8) 2 0 (.int (J v)) k = k (hi z TD g w (rs s 8 (ru (s 8) 0 v))) := pV_hi (o := 8) (T := TD) rfl rfl
theorem gR_NB1 {k : Nat → XR} : gR (hi z TD g w s) (z + 8) 2 1 k = k (z + 9) := gR_hi (o := 8) (T := TD) rfl rfl
theorem gR_NB2 {k : Nat → XR} : gR (hi z TD g w s) (z + 8) 2 2 k = k (z + 10) := gR_hi (o := 8) (T := TD) rfl rfl
theorem isO_NB {k : XR} : isO (hi z TD g w s) (z + 8) 2 k = k := isO_hi (o := 8) (T := TD) rfl
theorem rd_NC {k : Int32 → XR} (h : 0 ≤ i ∧ i < 160) : rdI (hi z TD g w s) (z + 9) (J i) k = k (J (s 9 i)) := rdI_hi (o := 9) (T := TD) (n := 160) rfl h.1 h.2 (by decide)
theorem wr_NC {k : XH → XR} (h : 0 ≤ i ∧ i < 160) : wrI (hi z TD g w s) (z + 9) (J i) (J v) k = k (hi z TD g w (rs s 9 (ru (s 9) i v))) := wrI_hi (o := 9) (T := TD) (n := 160) rfl h.1 h.2 (by decide)
theorem ln_NC {k : Int32 → XR} : lnA (hi z TD g w s) (z + 9) k = k (J 160) := lnA_hi (o := 9) (T := TD) (n := 160) rfl
theorem rd_NP {k : Int32 → XR} (h : 0 ≤ i ∧ i < 160) : rdI (hi z TD g w s) (z + 10) (J i) k = k (J (s 10 i)) := rdI_hi (o := 10) (T := TD) (n := 160) rfl h.1 h.2 (by decide)
theorem wr_NP {k : XH → XR} (h : 0 ≤ i ∧ i < 160) : wrI (hi z TD g w s) (z + 10) (J i) (J v) k = k (hi z TD g w (rs s 10 (ru (s 10) i v))) := wrI_hi (o := 10) (T := TD) (n := 160) rfl h.1 h.2 (by decide)
theorem ln_NP {k : Int32 → XR} : lnA (hi z TD g w s) (z + 10) k = k (J 160) := lnA_hi (o := 10) (T := TD) (n := 160) rfl
theorem gI_V0 {k : Int32 → XR} : gI (hi z TD g w s) (z + 35) 5 0 k = k (J (s 35 0)) := gI_hi (o := 35) (T := TD) rfl rfl
theorem pV_V0 {k : XH → XR} : pV (hi z TD g w s) (z + 35) 5 0 (.int (J v)) k = k (hi z TD g w (rs s 35 (ru (s 35) 0 v))) := pV_hi (o := 35) (T := TD) rfl rfl
theorem gI_V1 {k : Int32 → XR} : gI (hi z TD g w s) (z + 35) 5 1 k = k (J (s 35 1)) := gI_hi (o := 35) (T := TD) rfl rfl
theorem pV_V1 {k : XH → XR} : pV (hi z TD g w s) (z + 35) 5 1 (.int (J v)) k = k (hi z TD g w (rs s 35 (ru (s 35) 1 v))) := pV_hi (o := 35) (T := TD) rfl rfl
theorem gI_V2 {k : Int32 → XR} : gI (hi z TD g w s) (z + 35) 5 2 k = k (J (s 35 2)) := gI_hi (o := 35) (T := TD) rfl rfl
theorem pV_V2 {k : XH → XR} : pV (hi z TD g w s) (z + 35) 5 2 (.int (J v)) k = k (hi z TD g w (rs s 35 (ru (s 35) 2 v))) := pV_hi (o := 35) (T := TD) rfl rfl
theorem gI_V3 {k : Int32 → XR} : gI (hi z TD g w s) (z + 35) 5 3 k = k (J (s 35 3)) := gI_hi (o := 35) (T := TD) rfl rfl
theorem pV_V3 {k : XH → XR} : pV (hi z TD g w s) (z + 35) 5 3 (.int (J v)) k = k (hi z TD g w (rs s 35 (ru (s 35) 3 v))) := pV_hi (o := 35) (T := TD) rfl rfl
theorem gR_V4 {k : Nat → XR} : gR (hi z TD g w s) (z + 35) 5 4 k = k (z + 36) := gR_hi (o := 35) (T := TD) rfl rfl
theorem gR_V5 {k : Nat → XR} : gR (hi z TD g w s) (z + 35) 5 5 k = k (z + 37) := gR_hi (o := 35) (T := TD) rfl rfl
theorem isO_V {k : XR} : isO (hi z TD g w s) (z + 35) 5 k = k := isO_hi (o := 35) (T := TD) rfl
theorem rd_VL {k : Nat → XR} (h : 0 ≤ i ∧ i < 8) : rdR (hi z TD g w s) (z + 36) (J i) k = k (z + (40 + 3 * i.toNat)) := rdR_hi (o := 36) (T := TD) (n := 8) rfl h.1 h.2 (by decide)
theorem gI_VB0 {k : Int32 → XR} : gI (hi z TD g w s) (z + 37) 2 0 k = k (J (s 37 0)) := gI_hi (o := 37) (T := TD) rfl rfl
theorem pV_VB0 {k : XH → XR} : pV (hi z TD g w s) (z + 37) 2 0 (.int (J v)) k = k (hi z TD g w (rs s 37 (ru (s 37) 0 v))) := pV_hi (o := 37) (T := TD) rfl rfl
theorem gR_VB1 {k : Nat → XR} : gR (hi z TD g w s) (z + 37) 2 1 k = k (z + 38) := gR_hi (o := 37) (T := TD) rfl rfl
theorem gR_VB2 {k : Nat → XR} : gR (hi z TD g w s) (z + 37) 2 2 k = k (z + 39) := gR_hi (o := 37) (T := TD) rfl rfl
theorem isO_VB {k : XR} : isO (hi z TD g w s) (z + 37) 2 k = k := isO_hi (o := 37) (T := TD) rfl
theorem rd_VC {k : Int32 → XR} (h : 0 ≤ i ∧ i < 160) : rdI (hi z TD g w s) (z + 38) (J i) k = k (J (s 38 i)) := rdI_hi (o := 38) (T := TD) (n := 160) rfl h.1 h.2 (by decide)
theorem wr_VC {k : XH → XR} (h : 0 ≤ i ∧ i < 160) : wrI (hi z TD g w s) (z + 38) (J i) (J v) k = k (hi z TD g w (rs s 38 (ru (s 38) i v))) := wrI_hi (o := 38) (T := TD) (n := 160) rfl h.1 h.2 (by decide)
theorem ln_VC {k : Int32 → XR} : lnA (hi z TD g w s) (z + 38) k = k (J 160) := lnA_hi (o := 38) (T := TD) (n := 160) rfl
theorem rd_VP {k : Int32 → XR} (h : 0 ≤ i ∧ i < 160) : rdI (hi z TD g w s) (z + 39) (J i) k = k (J (s 39 i)) := rdI_hi (o := 39) (T := TD) (n := 160) rfl h.1 h.2 (by decide)
theorem wr_VP {k : XH → XR} (h : 0 ≤ i ∧ i < 160) : wrI (hi z TD g w s) (z + 39) (J i) (J v) k = k (hi z TD g w (rs s 39 (ru (s 39) i v))) := wrI_hi (o := 39) (T := TD) (n := 160) rfl h.1 h.2 (by decide)
theorem ln_VP {k : Int32 → XR} : lnA (hi z TD g w s) (z + 39) k = k (J 160) := lnA_hi (o := 39) (T := TD) (n := 160) rfl
theorem rd_SL {k : Nat → XR} (h : 0 ≤ i ∧ i < 2) : rdR (hi z TD g w s) (z + 64) (J i) k = k (z + (313 + 29 * i.toNat)) := rdR_hi (o := 64) (T := TD) (n := 2) rfl h.1 h.2 (by decide)
theorem rd_KP {k : Int32 → XR} (h : 0 ≤ i ∧ i < 2) : rdB (hi z TD g w s) (z + 65) (J i) k = k (J (s 65 i)) := rdB_hi (o := 65) (T := TD) (n := 2) rfl (by decide) h.1 h.2 (by decide)
theorem wr_KP {k : XH → XR} (h : 0 ≤ i ∧ i < 2) (hv : v = 0 ∨ v = 1) : wrB (hi z TD g w s) (z + 65) (J i) (J v) k = k (hi z TD g w (rs s 65 (ru (s 65) i v))) := wrB_hi2 (o := 65) (T := TD) (n := 2) rfl h.1 h.2 (by decide) hv
theorem gI_H0 {k : Int32 → XR} : gI (hi z TD g w s) (z + 66) 1 0 k = k (J (s 66 0)) := gI_hi (o := 66) (T := TD) rfl rfl
theorem pV_H0 {k : XH → XR} : pV (hi z TD g w s) (z + 66) 1 0 (.int (J v)) k = k (hi z TD g w (rs s 66 (ru (s 66) 0 v))) := pV_hi (o := 66) (T := TD) rfl rfl
theorem gI_H1 {k : Int32 → XR} : gI (hi z TD g w s) (z + 66) 1 1 k = k (J (s 66 1)) := gI_hi (o := 66) (T := TD) rfl rfl
theorem pV_H1 {k : XH → XR} : pV (hi z TD g w s) (z + 66) 1 1 (.int (J v)) k = k (hi z TD g w (rs s 66 (ru (s 66) 1 v))) := pV_hi (o := 66) (T := TD) rfl rfl
theorem gR_H2 {k : Nat → XR} : gR (hi z TD g w s) (z + 66) 1 2 k = k (z + 67) := gR_hi (o := 66) (T := TD) rfl rfl
theorem isO_H {k : XR} : isO (hi z TD g w s) (z + 66) 1 k = k := isO_hi (o := 66) (T := TD) rfl
theorem rd_HP {k : Nat → XR} (h : 0 ≤ i ∧ i < 8) : rdR (hi z TD g w s) (z + 67) (J i) k = k (z + (68 + 29 * i.toNat)) := rdR_hi (o := 67) (T := TD) (n := 8) rfl h.1 h.2 (by decide)
theorem gI_B0 {k : Int32 → XR} : gI (hi z TD g w s) (z + 300) 0 0 k = k (J (s 300 0)) := gI_hi (o := 300) (T := TD) rfl rfl
theorem pV_B0 {k : XH → XR} : pV (hi z TD g w s) (z + 300) 0 0 (.int (J v)) k = k (hi z TD g w (rs s 300 (ru (s 300) 0 v))) := pV_hi (o := 300) (T := TD) rfl rfl
theorem gI_B1 {k : Int32 → XR} : gI (hi z TD g w s) (z + 300) 0 1 k = k (J (s 300 1)) := gI_hi (o := 300) (T := TD) rfl rfl
theorem pV_B1 {k : XH → XR} : pV (hi z TD g w s) (z + 300) 0 1 (.int (J v)) k = k (hi z TD g w (rs s 300 (ru (s 300) 1 v))) := pV_hi (o := 300) (T := TD) rfl rfl
theorem gR_B2 {k : Nat → XR} : gR (hi z TD g w s) (z + 300) 0 2 k = k (z + 301) := gR_hi (o := 300) (T := TD) rfl rfl
theorem gR_B3 {k : Nat → XR} : gR (hi z TD g w s) (z + 300) 0 3 k = k (z + 302) := gR_hi (o := 300) (T := TD) rfl rfl
theorem gR_B4 {k : Nat → XR} : gR (hi z TD g w s) (z + 300) 0 4 k = k (z + 303) := gR_hi (o := 300) (T := TD) rfl rfl
theorem gR_B5 {k : Nat → XR} : gR (hi z TD g w s) (z + 300) 0 5 k = k (z + 304) := gR_hi (o := 300) (T := TD) rfl rfl
theorem gR_B6 {k : Nat → XR} : gR (hi z TD g w s) (z + 300) 0 6 k = k (z + 305) := gR_hi (o := 300) (T := TD) rfl rfl
theorem gR_B7 {k : Nat → XR} : gR (hi z TD g w s) (z + 300) 0 7 k = k (z + 306) := gR_hi (o := 300) (T := TD) rfl rfl
theorem gR_B8 {k : Nat → XR} : gR (hi z TD g w s) (z + 300) 0 8 k = k (z + 307) := gR_hi (o := 300) (T := TD) rfl rfl
theorem isO_B {k : XR} : isO (hi z TD g w s) (z + 300) 0 k = k := isO_hi (o := 300) (T := TD) rfl
theorem rd_B301 {k : Int32 → XR} (h : 0 ≤ i ∧ i < 1600) : rdI (hi z TD g w s) (z + 301) (J i) k = k (J (s 301 i)) := rdI_hi (o := 301) (T := TD) (n := 1600) rfl h.1 h.2 (by decide)
theorem wr_B301 {k : XH → XR} (h : 0 ≤ i ∧ i < 1600) : wrI (hi z TD g w s) (z + 301) (J i) (J v) k = k (hi z TD g w (rs s 301 (ru (s 301) i v))) := wrI_hi (o := 301) (T := TD) (n := 1600) rfl h.1 h.2 (by decide)
theorem ln_B301 {k : Int32 → XR} : lnA (hi z TD g w s) (z + 301) k = k (J 1600) := lnA_hi (o := 301) (T := TD) (n := 1600) rfl
theorem rd_B302 {k : Int32 → XR} (h : 0 ≤ i ∧ i < 1600) : rdI (hi z TD g w s) (z + 302) (J i) k = k (J (s 302 i)) := rdI_hi (o := 302) (T := TD) (n := 1600) rfl h.1 h.2 (by decide)
theorem wr_B302 {k : XH → XR} (h : 0 ≤ i ∧ i < 1600) : wrI (hi z TD g w s) (z + 302) (J i) (J v) k = k (hi z TD g w (rs s 302 (ru (s 302) i v))) := wrI_hi (o := 302) (T := TD) (n := 1600) rfl h.1 h.2 (by decide)
theorem ln_B302 {k : Int32 → XR} : lnA (hi z TD g w s) (z + 302) k = k (J 1600) := lnA_hi (o := 302) (T := TD) (n := 1600) rfl
theorem rd_B303 {k : Int32 → XR} (h : 0 ≤ i ∧ i < 1600) : rdI (hi z TD g w s) (z + 303) (J i) k = k (J (s 303 i)) := rdI_hi (o := 303) (T := TD) (n := 1600) rfl h.1 h.2 (by decide)
theorem wr_B303 {k : XH → XR} (h : 0 ≤ i ∧ i < 1600) : wrI (hi z TD g w s) (z + 303) (J i) (J v) k = k (hi z TD g w (rs s 303 (ru (s 303) i v))) := wrI_hi (o := 303) (T := TD) (n := 1600) rfl h.1 h.2 (by decide)
theorem ln_B303 {k : Int32 → XR} : lnA (hi z TD g w s) (z + 303) k = k (J 1600) := lnA_hi (o := 303) (T := TD) (n := 1600) rfl
theorem rd_B304 {k : Int32 → XR} (h : 0 ≤ i ∧ i < 1600) : rdI (hi z TD g w s) (z + 304) (J i) k = k (J (s 304 i)) := rdI_hi (o := 304) (T := TD) (n := 1600) rfl h.1 h.2 (by decide)
theorem wr_B304 {k : XH → XR} (h : 0 ≤ i ∧ i < 1600) : wrI (hi z TD g w s) (z + 304) (J i) (J v) k = k (hi z TD g w (rs s 304 (ru (s 304) i v))) := wrI_hi (o := 304) (T := TD) (n := 1600) rfl h.1 h.2 (by decide)
theorem ln_B304 {k : Int32 → XR} : lnA (hi z TD g w s) (z + 304) k = k (J 1600) := lnA_hi (o := 304) (T := TD) (n := 1600) rfl
theorem rd_B305 {k : Int32 → XR} (h : 0 ≤ i ∧ i < 1600) : rdI (hi z TD g w s) (z + 305) (J i) k = k (J (s 305 i)) := rdI_hi (o := 305) (T := TD) (n := 1600) rfl h.1 h.2 (by decide)
theorem wr_B305 {k : XH → XR} (h : 0 ≤ i ∧ i < 1600) : wrI (hi z TD g w s) (z + 305) (J i) (J v) k = k (hi z TD g w (rs s 305 (ru (s 305) i v))) := wrI_hi (o := 305) (T := TD) (n := 1600) rfl h.1 h.2 (by decide)
theorem ln_B305 {k : Int32 → XR} : lnA (hi z TD g w s) (z + 305) k = k (J 1600) := lnA_hi (o := 305) (T := TD) (n := 1600) rfl
theorem rd_B306 {k : Int32 → XR} (h : 0 ≤ i ∧ i < 1600) : rdI (hi z TD g w s) (z + 306) (J i) k = k (J (s 306 i)) := rdI_hi (o := 306) (T := TD) (n := 1600) rfl h.1 h.2 (by decide)
theorem wr_B306 {k : XH → XR} (h : 0 ≤ i ∧ i < 1600) : wrI (hi z TD g w s) (z + 306) (J i) (J v) k = k (hi z TD g w (rs s 306 (ru (s 306) i v))) := wrI_hi (o := 306) (T := TD) (n := 1600) rfl h.1 h.2 (by decide)
theorem ln_B306 {k : Int32 → XR} : lnA (hi z TD g w s) (z + 306) k = k (J 1600) := lnA_hi (o := 306) (T := TD) (n := 1600) rfl
theorem rd_B307 {k : Int32 → XR} (h : 0 ≤ i ∧ i < 160) : rdI (hi z TD g w s) (z + 307) (J i) k = k (J (s 307 i)) := rdI_hi (o := 307) (T := TD) (n := 160) rfl h.1 h.2 (by decide)
theorem wr_B307 {k : XH → XR} (h : 0 ≤ i ∧ i < 160) : wrI (hi z TD g w s) (z + 307) (J i) (J v) k = k (hi z TD g w (rs s 307 (ru (s 307) i v))) := wrI_hi (o := 307) (T := TD) (n := 160) rfl h.1 h.2 (by decide)
theorem ln_B307 {k : Int32 → XR} : lnA (hi z TD g w s) (z + 307) k = k (J 160) := lnA_hi (o := 307) (T := TD) (n := 160) rfl
theorem gR_Tv {k : Nat → XR} : gR (hi z TD g w s) (z + 308) 7 0 k = k (z + 309) := gR_hi (o := 308) (T := TD) rfl rfl
theorem isO_Tv {k : XR} : isO (hi z TD g w s) (z + 308) 7 k = k := isO_hi (o := 308) (T := TD) rfl
theorem rd_Tv9 {k : Int32 → XR} (h : 0 ≤ i ∧ i < 160) : rdI (hi z TD g w s) (z + 309) (J i) k = k (J (s 309 i)) := rdI_hi (o := 309) (T := TD) (n := 160) rfl h.1 h.2 (by decide)
theorem wr_Tv9 {k : XH → XR} (h : 0 ≤ i ∧ i < 160) : wrI (hi z TD g w s) (z + 309) (J i) (J v) k = k (hi z TD g w (rs s 309 (ru (s 309) i v))) := wrI_hi (o := 309) (T := TD) (n := 160) rfl h.1 h.2 (by decide)
theorem ln_Tv9 {k : Int32 → XR} : lnA (hi z TD g w s) (z + 309) k = k (J 160) := lnA_hi (o := 309) (T := TD) (n := 160) rfl
theorem gI_L {a : Nat} {k : Int32 → XR} (h : isLn T a) (hx : x < 4) : gI (hi z T g w s) (z + a) 3 x k = k (J (s a x)) := gI_hi h.1 (by
  rcases (show x = 0 ∨ x = 1 ∨ x = 2 ∨ x = 3 by omega) with rfl | rfl | rfl | rfl <;> rfl)
theorem pV_L {a : Nat} {k : XH → XR} (h : isLn T a) (hx : x < 4) : pV (hi z T g w s) (z + a) 3 x (.int (J v)) k = k (hi z T g w (rs s a (ru (s a) x v))) := pV_hi h.1 (by
  rcases (show x = 0 ∨ x = 1 ∨ x = 2 ∨ x = 3 by omega) with rfl | rfl | rfl | rfl <;> rfl)
theorem isO_L {a : Nat} {k : XR} (h : isLn T a) : isO (hi z T g w s) (z + a) 3 k = k := isO_hi h.1
theorem gI_L0 {a : Nat} {k : Int32 → XR} (h : isLn T a) : gI (hi z T g w s) (z + a) 3 0 k = k (J (s a 0)) := gI_L h (by decide)
theorem pV_L0 {a : Nat} {k : XH → XR} (h : isLn T a) : pV (hi z T g w s) (z + a) 3 0 (.int (J v)) k = k (hi z T g w (rs s a (ru (s a) 0 v))) := pV_L h (by decide)
theorem gI_L1 {a : Nat} {k : Int32 → XR} (h : isLn T a) : gI (hi z T g w s) (z + a) 3 1 k = k (J (s a 1)) := gI_L h (by decide)
theorem pV_L1 {a : Nat} {k : XH → XR} (h : isLn T a) : pV (hi z T g w s) (z + a) 3 1 (.int (J v)) k = k (hi z T g w (rs s a (ru (s a) 1 v))) := pV_L h (by decide)
theorem gI_L2 {a : Nat} {k : Int32 → XR} (h : isLn T a) : gI (hi z T g w s) (z + a) 3 2 k = k (J (s a 2)) := gI_L h (by decide)
theorem pV_L2 {a : Nat} {k : XH → XR} (h : isLn T a) : pV (hi z T g w s) (z + a) 3 2 (.int (J v)) k = k (hi z T g w (rs s a (ru (s a) 2 v))) := pV_L h (by decide)
theorem gI_L3 {a : Nat} {k : Int32 → XR} (h : isLn T a) : gI (hi z T g w s) (z + a) 3 3 k = k (J (s a 3)) := gI_L h (by decide)
theorem pV_L3 {a : Nat} {k : XH → XR} (h : isLn T a) : pV (hi z T g w s) (z + a) 3 3 (.int (J v)) k = k (hi z T g w (rs s a (ru (s a) 3 v))) := pV_L h (by decide)
theorem gR_L4 {a : Nat} {k : Nat → XR} (h : isLn T a) : gR (hi z T g w s) (z + a) 3 4 k = k (z + (a + 1)) := gR_hi h.1 rfl
theorem rd_L4 {a : Nat} {k : Int32 → XR} (h : isLn T a) (h1 : 0 ≤ i ∧ i < 10) : rdI (hi z T g w s) (z + (a + 1)) (J i) k = k (J (s (a + 1) i)) := rdI_hi (n := 10) h.2.1 h1.1 h1.2 (by decide)
theorem wr_L4 {a : Nat} {k : XH → XR} (h : isLn T a) (h1 : 0 ≤ i ∧ i < 10) : wrI (hi z T g w s) (z + (a + 1)) (J i) (J v) k = k (hi z T g w (rs s (a + 1) (ru (s (a + 1)) i v))) := wrI_hi (n := 10) h.2.1 h1.1 h1.2 (by decide)
theorem gR_L5 {a : Nat} {k : Nat → XR} (h : isLn T a) : gR (hi z T g w s) (z + a) 3 5 k = k (z + (a + 2)) := gR_hi h.1 rfl
theorem rd_L5 {a : Nat} {k : Int32 → XR} (h : isLn T a) (h1 : 0 ≤ i ∧ i < 10) : rdI (hi z T g w s) (z + (a + 2)) (J i) k = k (J (s (a + 2) i)) := rdI_hi (n := 10) h.2.2 h1.1 h1.2 (by decide)
theorem wr_L5 {a : Nat} {k : XH → XR} (h : isLn T a) (h1 : 0 ≤ i ∧ i < 10) : wrI (hi z T g w s) (z + (a + 2)) (J i) (J v) k = k (hi z T g w (rs s (a + 2) (ru (s (a + 2)) i v))) := wrI_hi (n := 10) h.2.2 h1.1 h1.2 (by decide)
theorem isO_P {a : Nat} {k : XR} (h : isPl T a) : isO (hi z T g w s) (z + a) 5 k = k := isO_hi h.1
theorem gI_P0 {a : Nat} {k : Int32 → XR} (h : isPl T a) : gI (hi z T g w s) (z + a) 5 0 k = k (J (s a 0)) := gI_hi h.1 rfl
theorem pV_P0 {a : Nat} {k : XH → XR} (h : isPl T a) : pV (hi z T g w s) (z + a) 5 0 (.int (J v)) k = k (hi z T g w (rs s a (ru (s a) 0 v))) := pV_hi h.1 rfl
theorem gI_P1 {a : Nat} {k : Int32 → XR} (h : isPl T a) : gI (hi z T g w s) (z + a) 5 1 k = k (J (s a 1)) := gI_hi h.1 rfl
theorem pV_P1 {a : Nat} {k : XH → XR} (h : isPl T a) : pV (hi z T g w s) (z + a) 5 1 (.int (J v)) k = k (hi z T g w (rs s a (ru (s a) 1 v))) := pV_hi h.1 rfl
theorem gI_P2 {a : Nat} {k : Int32 → XR} (h : isPl T a) : gI (hi z T g w s) (z + a) 5 2 k = k (J (s a 2)) := gI_hi h.1 rfl
theorem pV_P2 {a : Nat} {k : XH → XR} (h : isPl T a) : pV (hi z T g w s) (z + a) 5 2 (.int (J v)) k = k (hi z T g w (rs s a (ru (s a) 2 v))) := pV_hi h.1 rfl
theorem gI_P3 {a : Nat} {k : Int32 → XR} (h : isPl T a) : gI (hi z T g w s) (z + a) 5 3 k = k (J (s a 3)) := gI_hi h.1 rfl
theorem pV_P3 {a : Nat} {k : XH → XR} (h : isPl T a) : pV (hi z T g w s) (z + a) 5 3 (.int (J v)) k = k (hi z T g w (rs s a (ru (s a) 3 v))) := pV_hi h.1 rfl
theorem gR_P4 {a : Nat} {k : Nat → XR} (h : isPl T a) : gR (hi z T g w s) (z + a) 5 4 k = k (z + (a + 1)) := gR_hi h.1 rfl
theorem gR_P5 {a : Nat} {k : Nat → XR} (h : isPl T a) : gR (hi z T g w s) (z + a) 5 5 k = k (z + (a + 2)) := gR_hi h.1 rfl
theorem rd_PL {a : Nat} {k : Nat → XR} (h : isPl T a) (h1 : 0 ≤ i ∧ i < 8) : rdR (hi z T g w s) (z + (a + 1)) (J i) k = k (z + (a + 5 + 3 * i.toNat)) := rdR_hi (n := 8) h.2.1 h1.1 h1.2 (by decide)
end IB
