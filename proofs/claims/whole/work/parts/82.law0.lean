/-! the law, call by call -/
section LAW
variable {z y : Nat} {g g' : XH} {w w' : Int64} {s s' s0 s1 s2 m m' m0 m1 m2 : CT} {G W W' V W1 row row' r0 nm lo lg sn f : Int → Int} {wd hg mt c i j l n p v t k x xx yy N q o to : Int} {a b : Nat} {h : XH}
variable {k r u e d lw up st nv zv tv E L : Int} {w1 w2 w3 : Int64} {h0 : XH} {xs : Nat → Int32} {qd qm : XH → XR} {X Y : XR} {k18 : Nat → Nat → Nat → Int32 → XH → XR}
def HH (h0 : XH) (z : Nat) (w : Int64) (s : CT) (w' : Int64) (m : CT) : XH := hi (z + 371) TM (hi z TD h0 w s) w' m
theorem TD_end {sh : Sh} (h : TD a = some sh) : a < 371 := by
  by_cases h1 : a < 371
  · exact h1
  · exfalso
    unfold TD at h
    rw [if_neg (by omega), if_neg (by omega), if_neg (by omega), if_neg (by omega), if_neg (by omega), if_neg (by omega), if_neg (by omega), if_neg (by omega)] at h
    cases h
theorem layers_swap : hi z TD (hi (z + 371) TM h0 w' m) w s = HH h0 z w s w' m := by
  refine Prod.ext rfl (funext fun a => ?_)
  show (match (if z ≤ a then TD (a - z) else none) with
    | some sh => some (ent z w (fun i => s (a - z) (i : Int)) sh)
    | none => (match (if z + 371 ≤ a then TM (a - (z + 371)) else none) with
      | some sh => some (ent (z + 371) w' (fun i => m (a - (z + 371)) (i : Int)) sh)
      | none => h0.2 a)) = (match (if z + 371 ≤ a then TM (a - (z + 371)) else none) with
      | some sh => some (ent (z + 371) w' (fun i => m (a - (z + 371)) (i : Int)) sh)
      | none => (match (if z ≤ a then TD (a - z) else none) with
        | some sh => some (ent z w (fun i => s (a - z) (i : Int)) sh)
        | none => h0.2 a))
  by_cases h1 : z + 371 ≤ a
  · have e : (if z ≤ a then TD (a - z) else none) = none := by
      rw [if_pos (by omega)]
      cases hT : TD (a - z) with
      | none => rfl
      | some sh => exact absurd (TD_end hT) (by omega)
    rw [e]
  · rw [if_neg h1]
theorem layer_eq {T : Nat → Option Sh} {g1 : XH} (h : hi z T g w s = hi z T g w s1) : hi z T g1 w s = hi z T g1 w s1 := by
  refine Prod.ext rfl (funext fun a => ?_)
  have x : (match (if z ≤ a then T (a - z) else none) with
    | some sh => some (ent z w (fun i => s (a - z) (i : Int)) sh)
    | none => g.2 a) = (match (if z ≤ a then T (a - z) else none) with
    | some sh => some (ent z w (fun i => s1 (a - z) (i : Int)) sh)
    | none => g.2 a) := congrFun (congrArg Prod.snd h) a
  show (match (if z ≤ a then T (a - z) else none) with
    | some sh => some (ent z w (fun i => s (a - z) (i : Int)) sh)
    | none => g1.2 a) = (match (if z ≤ a then T (a - z) else none) with
    | some sh => some (ent z w (fun i => s1 (a - z) (i : Int)) sh)
    | none => g1.2 a)
  cases hT : (if z ≤ a then T (a - z) else none) with
  | none => rfl
  | some sh => rw [hT] at x; exact x
theorem GT.layer {y : Nat} {T : Nat → Option Sh} (h : GT g z) (hy : z ≤ y) : GT (hi y T g w s) z := ⟨GOk.layer h.1 hy, h.2⟩
theorem law_step (hb : GT h0 z) (hB : ∀ g g', GT g z → Both (qd (hi z TD g w s)) (qm (hi (z + 371) TM g' w' m)) z (z + 371) g g' w w') : ∃ v w2 s' m', qd (HH h0 z w s w' m) = rI v (HH h0 z w s' w' m) ∧ qm (HH h0 z w s' w' m) = rI v (HH h0 z w s' w2 m') ∧ Inv s' m' := by
  have hg : GT (hi (z + 371) TM h0 w' m) z := GT.layer hb (by omega)
  obtain ⟨v, w2, s1, m1, p1, q1, i1⟩ := hB (hi (z + 371) TM h0 w' m) h0 hg
  obtain ⟨v', w3, s2, m2, p2, q2, i2⟩ := hB (hi (z + 371) TM h0 w' m) (hi z TD h0 w s1) hg
  rw [p1] at p2
  injection p2 with p3
  injection p3 with p4 p5
  injection p4 with p6
  injection p6 with p7
  subst p7
  have e := layer_eq (g1 := h0) p5
  refine ⟨v, w3, s2, m2, ?_, ?_, i2⟩
  · rw [← layers_swap, p1, p5, layers_swap]
  · unfold HH
    rw [← e]
    exact q2
theorem law_stepF (hb : GT h0 z) (hB : ∀ g g', GT g z → BothF (qd (hi z TD g w s)) (qm (hi (z + 371) TM g' w' m)) z (z + 371) g g' w w') : ∃ v w2 s' m', qd (HH h0 z w s w' m) = rF v (HH h0 z w s' w' m) ∧ qm (HH h0 z w s' w' m) = rF v (HH h0 z w s' w2 m') ∧ Inv s' m' ∧ okF v := by
  have hg : GT (hi (z + 371) TM h0 w' m) z := GT.layer hb (by omega)
  obtain ⟨v, w2, s1, m1, p1, q1, i1⟩ := hB (hi (z + 371) TM h0 w' m) h0 hg
  obtain ⟨v', w3, s2, m2, p2, q2, i2⟩ := hB (hi (z + 371) TM h0 w' m) (hi z TD h0 w s1) hg
  rw [p1] at p2
  injection p2 with p3
  injection p3 with p4 p5
  injection p4 with p6
  injection p6 with p7
  subst p7
  have e := layer_eq (g1 := h0) p5
  refine ⟨v, w3, s2, m2, ?_, ?_, i2⟩
  · rw [← layers_swap, p1, p5, layers_swap]
  · unfold HH
    rw [← e]
    exact q2
theorem law_stepD (hb : GT h0 z) (hB : ∀ g g', GT g z → BothD (qd (hi z TD g w s)) (qm (hi (z + 371) TM g' w' m)) z (z + 371) g g' w w') : ∃ v w2 s' m', qd (HH h0 z w s w' m) = rD v (HH h0 z w s' w' m) ∧ qm (HH h0 z w s' w' m) = rD v (HH h0 z w s' w2 m') ∧ Inv s' m' ∧ okD v := by
  have hg : GT (hi (z + 371) TM h0 w' m) z := GT.layer hb (by omega)
  obtain ⟨v, w2, s1, m1, p1, q1, i1⟩ := hB (hi (z + 371) TM h0 w' m) h0 hg
  obtain ⟨v', w3, s2, m2, p2, q2, i2⟩ := hB (hi (z + 371) TM h0 w' m) (hi z TD h0 w s1) hg
  rw [p1] at p2
  injection p2 with p3
  injection p3 with p4 p5
  injection p4 with p6
  injection p6 with p7
  subst p7
  have e := layer_eq (g1 := h0) p5
  refine ⟨v, w3, s2, m2, ?_, ?_, i2⟩
  · rw [← layers_swap, p1, p5, layers_swap]
  · unfold HH
    rw [← e]
    exact q2
theorem isO_z {K : XR} : isO (HH h0 z w s w' m) z 8 K = K := by
  rw [← layers_swap, isO_D]
theorem isO_y {K : XR} : isO (HH h0 z w s w' m) (z + 371) 9 K = K := by
  unfold HH
  rw [isO_M]
end LAW
