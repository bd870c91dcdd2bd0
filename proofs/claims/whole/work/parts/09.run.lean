/-- a field's words -/
def XFld (own : String) (ix d x kd : Nat) : Prop := ∃ q, xcl[d]? = some q ∧ x < q.2.2 ∧ Cond.fieldLink own ix (q.2.1 x).1 (q.2.1 x).2.1 (q.2.1 x).2.2.1 ∈ xw ∧ (kd = 1 ∨ kd = 2 ∨ kd = 5 → vwCl[d]? = some q ∧ (q.2.1 x).2.2.2 = false ∧ (q.2.1 x).2.2.1 = (if kd = 1 then "I" else if kd = 2 then "Z" else "J"))
def XStc (own : String) (ix k kd : Nat) : Prop := if kd = 7 then ∃ q, xstrs[k]? = some q ∧ own = q.1 ∧ ix = q.2.1 else ∃ q, xsts[k]? = some q ∧ (Cond.fieldLink own ix q.1 q.2.1 q.2.2 ∈ xw ∨ ∃ host, Cond.fieldLinkNest own ix q.1 q.2.1 q.2.2 host ∈ xnw)
/-- constants of the pool -/
def XCon (own : String) (w : XRow) : Prop := match w.1 with
  | .ldc ix => (match w.2.2.2.1 with
    | .int v => Cond.constant own ix v ∈ xw
    | .float v => Cond.constantFloat own ix v ∈ xw
    | .null => True
    | _ => False)
  | .ldc_w ix => (match w.2.2.2.1 with
    | .int v => Cond.constant own ix v ∈ xw
    | .float v => Cond.constantFloat own ix v ∈ xw
    | _ => False)
  | .ldc2_w ix => (match w.2.2.2.1 with
    | .long v => Cond.constantLong own ix v ∈ xw
    | _ => False)
  | _ => True
def XCall (own : String) (ix fr lo : Nat) (o : XM) : Prop := match o with
  | (na, _, some d, f) => XVirt own ix fr lo na d f
  | (na, _, none, f) => XStat own ix fr lo na f
/-- a body's tables agree with the code and with the tables' words -/
def XOK (B : XB) (cc : ByteArray) (nL : Nat) (own : String) (fr lo : Nat) : Prop :=
  (∀ pc w, xfind B.1 pc = some w → decode cc pc = .ok (w.1, w.2.1 - pc) ∧ xok nL pc w = true ∧ XCon own w ∧ ∀ v, w.2.2.2.1 = .int v → ∀ ix, w.1 = .invokestatic ix → XIn own ix v (xrm fr lo)) ∧
  (∀ ix d x kd, xfind B.2.1 ix = some (d, x, kd) → XFld own ix d x kd) ∧ (∀ ix o, xfind B.2.2.1 ix = some o → XCall own ix fr lo o) ∧ ∀ ix k kd, xfind B.2.2.2.2 ix = some (k, kd) → XStc own ix k kd
section XS4
variable {p : Program} {l : Launch} {e : Env} {R : Room} {s : State} {m : MethodId} {args : Array Value} {below : List Frame} {meth : Method} {c : Code} {cells slots : Nat} {Q : Option Value → XH → State → Prop} {G : XG} {z N0 nL : Nat}
variable {cc : ByteArray} {own : String} {pc nx : Nat} {lv : XLV} {st : List Value} {h : XH} {r : XR}
theorem lv_ldcwF (hx : p.tables.exec = Jvm.exec) (hb : c.code = cc) {ix : Nat} {v : UInt32} {H : Heap} {locs : List Loc} {ls : Array Slot} {Z : State → Prop} (hown : s.vm.findClass own = some m.cls) (hconst : (Jvm.Cond.constantFloat own ix v).before args s = true) (hdg : decode cc pc = .ok (.ldc_w ix, 3)) (k : W p l e R s m args below meth c H locs cells slots Z (F0 m (pc + 3) ls (.float v :: st))) : W p l e R s m args below meth c H locs cells slots Z (F0 m pc ls st) := by
  intro T hT X
  obtain ⟨t, a, b⟩ := k T hT X
  refine ⟨t, ?_, b⟩
  obtain ⟨k, cf, hk, hcf, hcp⟩ := Cond.constantFloat_spec hown hconst
  obtain ⟨k', hk', he⟩ := X.warmed.alike.2.2 _ _ hk
  have hdg : decode c.code (F0 m pc ls st).pc = .ok (.ldc_w ix, 3) := by rw [hb]; exact hdg
  have a : Steps p.tables e below (T.setTop { F0 m pc ls st with pc := (F0 m pc ls st).pc + 3, stack := .float v :: (F0 m pc ls st).stack }) t := a
  jvm_step X.here [hx, hdg, ldc_w.wp_float (s := T) (f := F0 m pc ls st) X.here.top hk' (by rw [he]; exact hcf) hcp]
  exact a
theorem XSim_sw {x : Int32} {sw : List (Int32 × Nat)} {d : Nat} {k : Nat → XR} (hin : ∀ t, (∃ q ∈ sw, q.2 = t ∧ q.1 = x) → XSim p l e R s m args below meth c cells slots Q G z N0 nL pc lv st h (k t)) (hout : (∀ q ∈ sw, ¬ x = q.1) → XSim p l e R s m args below meth c cells slots Q G z N0 nL pc lv st h (k d)) : XSim p l e R s m args below meth c cells slots Q G z N0 nL pc lv st h (xsw k sw d x) := by
  induction sw with
  | nil => exact hout (fun q hq => by cases hq)
  | cons q r ih =>
    simp only [xsw]
    refine XSim.ite (fun e1 => hin _ ⟨q, List.mem_cons_self, rfl, e1.symm⟩) (fun e1 => ih (fun t ⟨q2, h1, h2⟩ => hin t ⟨q2, List.mem_cons_of_mem _ h1, h2⟩) (fun h2 => hout (fun q2 hq2 => ?_)))
    rcases List.mem_cons.mp hq2 with rfl | hq2
    · exact e1
    · exact h2 q2 hq2
theorem XSim_table (hx : p.tables.exec = Jvm.exec) (hb : c.code = cc) {dflt lo hi : Int} {offs : Array Int} {len dt : Nat} {x : Int32} {sw : List (Int32 × Nat)} {k : Nat → XR} (hd : decode cc pc = .ok (.tableswitch dflt lo hi offs, len)) (h0 : (pc : Int) + dflt = (dt : Int)) (h1 : -2147483648 ≤ lo) (h2 : hi ≤ 2147483647) (h3 : (offs.size : Int) = hi + 1 - lo)
    (h4 : sw = (List.range offs.size).map (fun (j : Nat) => (Int32.ofInt (lo + (j : Int)), ((pc : Int) + offs.getD j 0).toNat))) (h5 : ∀ j, j < offs.size → 0 ≤ (pc : Int) + offs.getD j 0) (hk : ∀ t, XSim p l e R s m args below meth c cells slots Q G z N0 nL t lv st h (k t)) :
    XSim p l e R s m args below meth c cells slots Q G z N0 nL pc lv (.int x :: st) h (xsw k sw dt x) := by
  have hof : ∀ j : Nat, j < offs.size → (Int32.ofInt (lo + (j : Int))).toInt = lo + (j : Int) := fun j hj => by
    rw [Int32.toInt_ofInt_of_le (by omega) (by omega)]
  refine XSim_sw (fun t ⟨q, hq, e1, e2⟩ => ?_) (fun hn => ?_)
  · rw [h4] at hq
    obtain ⟨j, hj, rfl⟩ := List.mem_map.mp hq
    have hj := List.mem_range.mp hj
    subst e1
    dsimp only at e2
    have e3 := hof j hj
    rw [e2] at e3
    refine (hk _).same fun Z H locs ls hl kk => ?_
    refine lv_tableIn (off := offs.getD j 0) hx hb hd (by omega) (by omega) ?_ ?_ kk
    · rw [e3, show (lo + (j : Int) - lo).toNat = j by omega, Array.getD_eq_getD_getElem?, Array.getElem?_eq_getElem hj]
      rfl
    · have := h5 j hj
      omega
  · refine (hk dt).same fun Z H locs ls hl kk => ?_
    refine lv_tableOut hx hb hd ?_ h0 kk
    by_cases g1 : x.toInt < lo
    · exact Or.inl g1
    · refine Or.inr ?_
      by_cases g2 : hi < x.toInt
      · exact g2
      · exfalso
        have hj : (x.toInt - lo).toNat < offs.size := by omega
        refine hn (Int32.ofInt (lo + (((x.toInt - lo).toNat : Nat) : Int)), ((pc : Int) + offs.getD (x.toInt - lo).toNat 0).toNat) ?_ ?_
        · rw [h4]
          exact List.mem_map.mpr ⟨_, List.mem_range.mpr hj, rfl⟩
        · dsimp only
          rw [show lo + (((x.toInt - lo).toNat : Nat) : Int) = x.toInt by omega]
          exact (Int32.ofInt_toInt x).symm
theorem XSim_lookup (hx : p.tables.exec = Jvm.exec) (hb : c.code = cc) {dflt : Int} {ps : Array (Int × Int)} {len dt : Nat} {x : Int32} {k : Nat → XR} (hd : decode cc pc = .ok (.lookupswitch dflt ps, len)) (h0 : (pc : Int) + dflt = (dt : Int)) (h1 : (ps.toList.zip (ps.toList.drop 1)).all (fun (a, next) => a.1 < next.1) = true)
    (hk : ∀ t, XSim p l e R s m args below meth c cells slots Q G z N0 nL t lv st h (k t)) : ∀ (L : List (Int × Int)), Op.lookupswitch.offset ps.toList dflt x.toInt = Op.lookupswitch.offset L dflt x.toInt → (∀ q ∈ L, 0 ≤ (pc : Int) + q.2 ∧ (Int32.ofInt q.1).toInt = q.1) →
    XSim p l e R s m args below meth c cells slots Q G z N0 nL pc lv (.int x :: st) h (xsw k (L.map (fun q => (Int32.ofInt q.1, ((pc : Int) + q.2).toNat))) dt x) := by
  intro L
  induction L with
  | nil =>
    intro hL _
    exact (hk dt).same fun Z H locs ls hl kk => lv_lookup hx hb hd h1 hL (by simpa [Op.lookupswitch.offset_nil] using h0) kk
  | cons q r ih =>
    obtain ⟨a, o⟩ := q
    intro hL hq
    obtain ⟨g1, g2⟩ := hq _ List.mem_cons_self
    simp only [List.map_cons, xsw]
    rw [Op.lookupswitch.offset_cons] at hL
    refine XSim.ite (fun e1 => ?_) (fun e1 => ?_)
    · rw [if_pos (by rw [e1]; exact g2.symm)] at hL
      exact (hk _).same fun Z H locs ls hl kk => lv_lookup hx hb hd h1 hL (by dsimp only at g1; omega) kk
    · rw [if_neg (fun e2 => e1 (by rw [e2]; exact (Int32.ofInt_toInt x).symm))] at hL
      exact ih hL (fun q hq2 => hq q (List.mem_cons_of_mem _ hq2))
end XS4
