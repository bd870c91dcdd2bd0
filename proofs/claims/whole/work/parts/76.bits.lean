/-! bits that are counted -/
section BC
variable {z y : Nat} {g g' : XH} {w w' : Int64} {s s' s0 s1 s2 m m' m0 m1 m2 : CT} {G W W' V W1 row row' r0 nm lo lg sn f : Int → Int} {wd hg mt c i j l n p v t k x xx yy N q o to : Int} {a b : Nat} {h : XH}
variable {P Q : Int → Prop} {k r u e : Int}
def obN (v : Nat) : Nat := v % 2 + v / 2 % 2 + v / 4 % 2 + v / 8 % 2 + v / 16 % 2 + v / 32 % 2 + v / 64 % 2 + v / 128 % 2
theorem ob_step : ∀ v : Nat, v < 256 → v ≠ 0 → obN (v &&& (v - 1)) + 1 = obN v ∧ (v &&& (v - 1)) < v := by decide +kernel
theorem ob_two : ∀ v : Nat, v < 256 → v ≠ 0 → ((v &&& (v - 1)) = 0 ↔ obN v = 1) := by decide +kernel
theorem ob_pos : ∀ v : Nat, v < 256 → v ≠ 0 → 1 ≤ obN v := by decide +kernel
theorem ob_le : ∀ v : Nat, v < 256 → obN v ≤ 8 := by decide +kernel
theorem bc_ex : ∃ f : Int32 → Int32, (∀ x h, qJI_bitCount x h = rI (f x) h) ∧ ∀ v : Nat, v < 256 → f (Int32.ofNat v) = Int32.ofNat (obN v) := ⟨_, fun x h => rfl, by decide +kernel⟩
theorem C_bitCount {v : Nat} (hv : v < 256) : qJI_bitCount (J v) h = rI (J (obN v)) h := by
  obtain ⟨f, h1, h2⟩ := bc_ex
  have := h2 v hv
  rw [J_lit, J_lit] at this
  rw [h1, this]
theorem iand_n {v : Nat} (h : v ≠ 0) : iand v ((v : Int) - 1) = ((v &&& (v - 1) : Nat) : Int) := by
  unfold iand
  rw [show ((v : Int) - 1).toNat = v - 1 by omega]
  rfl
theorem M_ones {v : Nat} (hv : v < 256) : qM_ones (J v) h = rI (J (obN v)) h := by
  have key := loopI (S := Nat × Nat) (fun N q => qM_ones_4 N (J q.1) (J q.2) h) (fun X => X = rI (J (obN v)) h) (fun q => q.1 + obN q.2 = obN v ∧ q.2 < 256) (fun q => q.2) (by intro q hq; omega) (fun N q hq ih => by
    obtain ⟨n, x⟩ := q
    obtain ⟨q1, q2⟩ := hq
    change n + obN x = obN v at q1
    change x < 256 at q2
    have b1 := ob_le v hv
    show qM_ones_4_b (qM_ones_4 N) (J n) (J x) h = _
    unfold qM_ones_4_b
    by_cases h0 : x = 0
    · subst h0
      have e : n = obN v := by rw [← q1]; rfl
      rw [if_pos (show J ((0 : Nat) : Int) = 0 from rfl), e]
    · have st := ob_step x q2 h0
      simp (disch := omega) only [J_l, J_neg, J_add, J_sub, J_mul, J_lt, J_le, J_eq, J_div2, J_rem2, J_shl1, J_orp, J_or, J_and, J_shr, J_ushr, J_max, J_min, J_abs, J_b0, ↓b0_ite, ↓b0_ite2, b0_ite, bI_r, bV_r, b01_ite, ite_true, ite_false, rZ_b, K_l, J_long, M_in, iand_n h0]
      rw [if_neg (by omega)]
      exact ih (n + 1, x &&& (x - 1)) ⟨by show n + 1 + obN (x &&& (x - 1)) = obN v; omega, by show (x &&& (x - 1)) < 256; omega⟩ (by show ((x &&& (x - 1) : Nat) : Int) < (x : Int); omega)) (0, v) ⟨by show 0 + obN v = obN v; omega, hv⟩ (by show (v : Int) < 20000; omega)
  exact key
theorem C_isOfTwo {v : Nat} (hv : v < 256) : qB_isOfTwo (J v) h = rI (J (b01 (1 < obN v))) h := by
  unfold qB_isOfTwo
  by_cases h0 : v = 0
  · subst h0
    rw [b01_neg (by decide), if_pos (by decide)]
    rfl
  · have st := ob_two v hv h0
    have s2 := ob_step v hv h0
    have sp := ob_pos v hv h0
    simp (disch := omega) only [J_l, J_neg, J_add, J_sub, J_mul, J_lt, J_le, J_eq, J_div2, J_rem2, J_shl1, J_orp, J_or, J_and, J_shr, J_ushr, J_max, J_min, J_abs, J_b0, ↓b0_ite, ↓b0_ite2, b0_ite, bI_r, bV_r, b01_ite, ite_true, ite_false, rZ_b, K_l, J_long, M_in, iand_n h0]
    by_cases h1 : (v &&& (v - 1)) = 0
    · rw [if_pos (show ((v &&& (v - 1) : Nat) : Int) = 0 by rw [h1]; rfl), b01_neg (show ¬1 < obN v by rw [st.mp h1]; omega)]
    · rw [if_neg (show ¬((v &&& (v - 1) : Nat) : Int) = 0 by omega), b01_pos (show 1 < obN v from by
        have : obN v ≠ 1 := fun q => h1 (st.mpr q)
        omega)]
theorem bit_of (hn : 0 ≤ i ∧ i < 8) : (((mk P 8).toNat / 2 ^ i.toNat % 2 : Nat) : Int) = b01 (P i) := by
  have t := mk_tb (P := P) (n := 8) (by omega) i.toNat
  rw [Nat.testBit_eq_decide_div_mod_eq] at t
  have e : ((i.toNat : Nat) : Int) = i := by omega
  rw [e] at t
  by_cases hp : P i
  · rw [b01_pos hp]
    have := t.mpr ⟨by omega, hp⟩
    simp at this
    omega
  · rw [b01_neg hp]
    have : ¬((mk P 8).toNat / 2 ^ i.toNat % 2 = 1) := fun q => hp (t.mp (by simp [q])).2
    omega
theorem cnt_8 : cnt P 8 = b01 (P 0) + b01 (P 1) + b01 (P 2) + b01 (P 3) + b01 (P 4) + b01 (P 5) + b01 (P 6) + b01 (P 7) := by
  have c0 : cnt P 0 = 0 := rfl
  have c1 : cnt P 1 = cnt P 0 + b01 (P 0) := cnt_s (n := 0) (by omega)
  have c2 : cnt P 2 = cnt P 1 + b01 (P 1) := cnt_s (n := 1) (by omega)
  have c3 : cnt P 3 = cnt P 2 + b01 (P 2) := cnt_s (n := 2) (by omega)
  have c4 : cnt P 4 = cnt P 3 + b01 (P 3) := cnt_s (n := 3) (by omega)
  have c5 : cnt P 5 = cnt P 4 + b01 (P 4) := cnt_s (n := 4) (by omega)
  have c6 : cnt P 6 = cnt P 5 + b01 (P 5) := cnt_s (n := 5) (by omega)
  have c7 : cnt P 7 = cnt P 6 + b01 (P 6) := cnt_s (n := 6) (by omega)
  have c8 : cnt P 8 = cnt P 7 + b01 (P 7) := cnt_s (n := 7) (by omega)
  omega
theorem ob_mk : (obN (mk P 8).toNat : Int) = cnt P 8 := by
  have h0 := bit_of (P := P) (i := 0) (by omega)
  have h1 := bit_of (P := P) (i := 1) (by omega)
  have h2 := bit_of (P := P) (i := 2) (by omega)
  have h3 := bit_of (P := P) (i := 3) (by omega)
  have h4 := bit_of (P := P) (i := 4) (by omega)
  have h5 := bit_of (P := P) (i := 5) (by omega)
  have h6 := bit_of (P := P) (i := 6) (by omega)
  have h7 := bit_of (P := P) (i := 7) (by omega)
  rw [cnt_8, ← h0, ← h1, ← h2, ← h3, ← h4, ← h5, ← h6, ← h7]
  generalize (mk P 8).toNat = v
  have e0 : v / 2 ^ (0 : Int).toNat = v := Nat.div_one v
  have e1 : v / 2 ^ (1 : Int).toNat = v / 2 := rfl
  have e2 : v / 2 ^ (2 : Int).toNat = v / 4 := rfl
  have e3 : v / 2 ^ (3 : Int).toNat = v / 8 := rfl
  have e4 : v / 2 ^ (4 : Int).toNat = v / 16 := rfl
  have e5 : v / 2 ^ (5 : Int).toNat = v / 32 := rfl
  have e6 : v / 2 ^ (6 : Int).toNat = v / 64 := rfl
  have e7 : v / 2 ^ (7 : Int).toNat = v / 128 := rfl
  rw [e0, e1, e2, e3, e4, e5, e6, e7]
  unfold obN
  omega
theorem mk_nat8 : ((mk P 8).toNat : Int) = mk P 8 ∧ (mk P 8).toNat < 256 := by
  have b := mk_le255 (P := P)
  exact ⟨by omega, by omega⟩
/-- two of the lines -/
def two (P : Int → Prop) (n : Int) : Prop := ∃ i j, (0 ≤ i ∧ i < j) ∧ j < n ∧ P i ∧ P j
theorem cnt_two (hn : 0 ≤ n) : 1 < cnt P n ↔ two P n := by
  have key := int_ind_le (P := fun n => 1 < cnt P n ↔ two P n) (N := n) ⟨fun h => by rw [cnt_0] at h; omega, fun ⟨i, j, h1, h2, _⟩ => by omega⟩ (fun k h2 h3 ih => by
    rw [cnt_s h2]
    have cb := cnt_bd (P := P) h2
    constructor
    · intro h
      by_cases hp : P k
      · rw [b01_pos hp] at h
        obtain ⟨i, i1, i2, i3⟩ := cnt_pos.mp (show 0 < cnt P k by omega)
        exact ⟨i, k, ⟨i1, i2⟩, by omega, i3, hp⟩
      · rw [b01_neg hp] at h
        obtain ⟨i, j, h4, h5, h6⟩ := ih.mp (by omega)
        exact ⟨i, j, h4, by omega, h6⟩
    · rintro ⟨i, j, h4, h5, h6, h7⟩
      by_cases hj : j = k
      · subst hj
        have := cnt_pos.mpr ⟨i, h4.1, h4.2, h6⟩
        rw [b01_pos h7]
        omega
      · have := ih.mpr ⟨i, j, h4, by omega, h6, h7⟩
        have bb := b01_le (P := P k)
        omega) n hn (Int.le_refl _)
  exact key
theorem M_onesK : qM_ones (J (mk P 8)) h = rI (J (cnt P 8)) h := by
  have b := mk_nat8 (P := P)
  have := M_ones (h := h) b.2
  rw [b.1, ob_mk] at this
  exact this
theorem C_bitK : qJI_bitCount (J (mk P 8)) h = rI (J (cnt P 8)) h := by
  have b := mk_nat8 (P := P)
  have := C_bitCount (h := h) b.2
  rw [b.1, ob_mk] at this
  exact this
theorem C_twoK : qB_isOfTwo (J (mk P 8)) h = rI (J (b01 (two P 8))) h := by
  have b := mk_nat8 (P := P)
  have := C_isOfTwo (h := h) b.2
  rw [b.1] at this
  rw [this, b01_congr (show 1 < obN (mk P 8).toNat ↔ two P 8 by
    rw [← cnt_two (by omega), ← ob_mk]; omega)]
theorem iand_255 : iand (mk P 8) 255 = mk P 8 := by
  rw [← mk_true8, iand_mk (by omega)]
  exact mk_congr fun i _ _ => ⟨fun q => q.1, fun q => ⟨q, trivial⟩⟩
theorem pw_mk (ha : 0 ≤ e ∧ e < 8) : pw e = mk (fun i => i = e) 8 := by
  have := ior_mk (P := fun _ => False) (b := e) (n := 8) ha.1 ha.2
  rw [mk_zero (P := fun _ => False) (by omega) (fun i _ _ q => q)] at this
  have e2 : ior 0 (pw e) = pw e := by
    unfold ior
    have := pw_pos (n := e)
    simp
    omega
  rw [e2] at this
  rw [this]
  exact mk_congr fun i _ _ => ⟨fun q => q.resolve_left (fun f => f), fun q => Or.inr q⟩
theorem pair_mk (ha : 0 ≤ e ∧ e < 8) (hu : 0 ≤ u ∧ u < 8) : ior (pw e) (pw u) = mk (fun i => i = e ∨ i = u) 8 := by
  rw [pw_mk ha, pw_mk hu, ior_mk2 (by omega)]
theorem mk_inj (h : mk P 8 = mk Q 8) : ∀ i, 0 ≤ i → i < 8 → (P i ↔ Q i) := fun i h0 h1 => by
  have t1 := mk_tb (P := P) (n := 8) (by omega) i.toNat
  have t2 := mk_tb (P := Q) (n := 8) (by omega) i.toNat
  rw [h] at t1
  have e : ((i.toNat : Nat) : Int) = i := by omega
  rw [e] at t1 t2
  exact ⟨fun q => (t2.mp (t1.mpr ⟨h1, q⟩)).2, fun q => (t1.mp (t2.mpr ⟨h1, q⟩)).2⟩
end BC
