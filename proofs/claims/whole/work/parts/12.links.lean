/-! words of the classes: fields, calls, constants, by their places in the tables -/
def XFT_B : List (Nat × (Nat × Nat × Nat)) := [(9, (0, 2, 4)), (15, (0, 3, 4)), (18, (0, 4, 4)), (21, (0, 5, 4)), (24, (0, 6, 4)), (27, (0, 7, 4)), (30, (0, 8, 4)), (33, (0, 0, 1)), (37, (0, 1, 1)), (46, (5, 0, 1)), (49, (5, 1, 1)), (54, (5, 3, 1)), (57, (5, 4, 4)), (69, (3, 4, 4)), (72, (3, 5, 4)), (83, (3, 1, 1)), (97, (3, 2, 1))]
theorem XFT_B_ok : ∀ ix d x kd, xfind XFT_B ix = some (d, x, kd) → XFld RX0 ix d x kd := xfld_of (List.forall_mem_cons.mpr ⟨⟨_, rfl, Nat.le_of_ble_eq_true rfl, xw_t1 202 rfl rfl, fun h => absurd h (by decide)⟩, List.forall_mem_cons.mpr ⟨⟨_, rfl, Nat.le_of_ble_eq_true rfl, xw_t1 204 rfl rfl, fun h => absurd h (by decide)⟩, List.forall_mem_cons.mpr ⟨⟨_, rfl, Nat.le_of_ble_eq_true rfl, xw_t1 205 rfl rfl, fun h => absurd h (by decide)⟩, List.forall_mem_cons.mpr ⟨⟨_, rfl, Nat.le_of_ble_eq_true rfl, xw_t1 208 rfl rfl, fun h => absurd h (by decide)⟩, List.forall_mem_cons.mpr ⟨⟨_, rfl, Nat.le_of_ble_eq_true rfl, xw_t1 210 rfl rfl, fun h => absurd h (by decide)⟩, List.forall_mem_cons.mpr ⟨⟨_, rfl, Nat.le_of_ble_eq_true rfl, xw_t1 212 rfl rfl, fun h => absurd h (by decide)⟩, List.forall_mem_cons.mpr ⟨⟨_, rfl, Nat.le_of_ble_eq_true rfl, xw_t1 214 rfl rfl, fun h => absurd h (by decide)⟩, List.forall_mem_cons.mpr ⟨⟨_, rfl, Nat.le_of_ble_eq_true rfl, xw_t1 200 rfl rfl, fun _ => ⟨rfl, rfl, rfl⟩⟩, List.forall_mem_cons.mpr ⟨⟨_, rfl, Nat.le_of_ble_eq_true rfl, xw_t1 201 rfl rfl, fun _ => ⟨rfl, rfl, rfl⟩⟩, List.forall_mem_cons.mpr ⟨⟨_, rfl, Nat.le_of_ble_eq_true rfl, xw_t1 138 rfl rfl, fun _ => ⟨rfl, rfl, rfl⟩⟩, List.forall_mem_cons.mpr ⟨⟨_, rfl, Nat.le_of_ble_eq_true rfl, xw_t1 142 rfl rfl, fun _ => ⟨rfl, rfl, rfl⟩⟩, List.forall_mem_cons.mpr ⟨⟨_, rfl, Nat.le_of_ble_eq_true rfl, xw_t1 151 rfl rfl, fun _ => ⟨rfl, rfl, rfl⟩⟩, List.forall_mem_cons.mpr ⟨⟨_, rfl, Nat.le_of_ble_eq_true rfl, xw_t1 156 rfl rfl, fun h => absurd h (by decide)⟩, List.forall_mem_cons.mpr ⟨⟨_, rfl, Nat.le_of_ble_eq_true rfl, xw_t1 117 rfl rfl, fun h => absurd h (by decide)⟩, List.forall_mem_cons.mpr ⟨⟨_, rfl, Nat.le_of_ble_eq_true rfl, xw_t1 121 rfl rfl, fun h => absurd h (by decide)⟩, List.forall_mem_cons.mpr ⟨⟨_, rfl, Nat.le_of_ble_eq_true rfl, xw_t1 103 rfl rfl, fun _ => ⟨rfl, rfl, rfl⟩⟩, List.forall_mem_cons.mpr ⟨⟨_, rfl, Nat.le_of_ble_eq_true rfl, xw_t1 110 rfl rfl, fun _ => ⟨rfl, rfl, rfl⟩⟩, fun _ h => absurd h List.not_mem_nil⟩⟩⟩⟩⟩⟩⟩⟩⟩⟩⟩⟩⟩⟩⟩⟩⟩)
def XST_B : List (Nat × (Nat × Nat)) := [(103, (0, 4)), (106, (1, 4))]
theorem XST_B_ok : ∀ ix k kd, xfind XST_B ix = some (k, kd) → XStc RX0 ix k kd := xstc_of (List.forall_mem_cons.mpr ⟨⟨_, rfl, Or.inr ⟨"LineDiagram", List.mem_of_getElem? (i := 10) rfl⟩⟩, List.forall_mem_cons.mpr ⟨⟨_, rfl, Or.inr ⟨"LineDiagram", List.mem_of_getElem? (i := 11) rfl⟩⟩, fun _ h => absurd h List.not_mem_nil⟩⟩)
def XKT_B : List (Nat × Value) := []
theorem XKT_B_ok : ∀ q ∈ XKT_B, XKonst RX0 q := fun _ h => absurd h List.not_mem_nil
def XFT_D : List (Nat × (Nat × Nat × Nat)) := [(10, (8, 0, 4)), (16, (8, 1, 4)), (22, (8, 2, 4)), (29, (8, 3, 4)), (33, (8, 4, 4)), (36, (8, 5, 4)), (40, (8, 6, 4)), (47, (8, 7, 4)), (54, (8, 8, 4)), (61, (8, 9, 4)), (68, (8, 10, 4)), (72, (8, 11, 1)), (83, (6, 0, 1)), (104, (5, 3, 1)), (123, (5, 4, 4)), (127, (3, 1, 1)), (145, (3, 2, 1)), (148, (3, 3, 1)), (161, (5, 5, 4)), (179, (0, 6, 4)), (199, (2, 0, 1)), (205, (1, 0, 1)), (209, (5, 0, 1)), (212, (5, 1, 1)), (215, (5, 2, 1)), (257, (3, 4, 4)), (260, (3, 5, 4)), (281, (0, 4, 4)), (287, (0, 2, 4)), (289, (0, 7, 4))]
theorem XFT_D_ok : ∀ ix d x kd, xfind XFT_D ix = some (d, x, kd) → XFld RX8 ix d x kd := xfld_of (List.forall_mem_cons.mpr ⟨⟨_, rfl, Nat.le_of_ble_eq_true rfl, xw_t2 17 rfl rfl, fun h => absurd h (by decide)⟩, List.forall_mem_cons.mpr ⟨⟨_, rfl, Nat.le_of_ble_eq_true rfl, xw_t2 18 rfl rfl, fun h => absurd h (by decide)⟩, List.forall_mem_cons.mpr ⟨⟨_, rfl, Nat.le_of_ble_eq_true rfl, xw_t2 19 rfl rfl, fun h => absurd h (by decide)⟩, List.forall_mem_cons.mpr ⟨⟨_, rfl, Nat.le_of_ble_eq_true rfl, xw_t2 20 rfl rfl, fun h => absurd h (by decide)⟩, List.forall_mem_cons.mpr ⟨⟨_, rfl, Nat.le_of_ble_eq_true rfl, xw_t2 21 rfl rfl, fun h => absurd h (by decide)⟩, List.forall_mem_cons.mpr ⟨⟨_, rfl, Nat.le_of_ble_eq_true rfl, xw_t2 22 rfl rfl, fun h => absurd h (by decide)⟩, List.forall_mem_cons.mpr ⟨⟨_, rfl, Nat.le_of_ble_eq_true rfl, xw_t2 23 rfl rfl, fun h => absurd h (by decide)⟩, List.forall_mem_cons.mpr ⟨⟨_, rfl, Nat.le_of_ble_eq_true rfl, xw_t2 24 rfl rfl, fun h => absurd h (by decide)⟩, List.forall_mem_cons.mpr ⟨⟨_, rfl, Nat.le_of_ble_eq_true rfl, xw_t2 25 rfl rfl, fun h => absurd h (by decide)⟩, List.forall_mem_cons.mpr ⟨⟨_, rfl, Nat.le_of_ble_eq_true rfl, xw_t2 26 rfl rfl, fun h => absurd h (by decide)⟩, List.forall_mem_cons.mpr ⟨⟨_, rfl, Nat.le_of_ble_eq_true rfl, xw_t2 27 rfl rfl, fun h => absurd h (by decide)⟩, List.forall_mem_cons.mpr ⟨⟨_, rfl, Nat.le_of_ble_eq_true rfl, xw_t2 28 rfl rfl, fun _ => ⟨rfl, rfl, rfl⟩⟩, List.forall_mem_cons.mpr ⟨⟨_, rfl, Nat.le_of_ble_eq_true rfl, xw_t1 33 rfl rfl, fun _ => ⟨rfl, rfl, rfl⟩⟩, List.forall_mem_cons.mpr ⟨⟨_, rfl, Nat.le_of_ble_eq_true rfl, xw_t1 152 rfl rfl, fun _ => ⟨rfl, rfl, rfl⟩⟩, List.forall_mem_cons.mpr ⟨⟨_, rfl, Nat.le_of_ble_eq_true rfl, xw_t1 157 rfl rfl, fun h => absurd h (by decide)⟩, List.forall_mem_cons.mpr ⟨⟨_, rfl, Nat.le_of_ble_eq_true rfl, xw_t1 104 rfl rfl, fun _ => ⟨rfl, rfl, rfl⟩⟩, List.forall_mem_cons.mpr ⟨⟨_, rfl, Nat.le_of_ble_eq_true rfl, xw_t1 111 rfl rfl, fun _ => ⟨rfl, rfl, rfl⟩⟩, List.forall_mem_cons.mpr ⟨⟨_, rfl, Nat.le_of_ble_eq_true rfl, xw_t1 115 rfl rfl, fun _ => ⟨rfl, rfl, rfl⟩⟩, List.forall_mem_cons.mpr ⟨⟨_, rfl, Nat.le_of_ble_eq_true rfl, xw_t1 159 rfl rfl, fun h => absurd h (by decide)⟩, List.forall_mem_cons.mpr ⟨⟨_, rfl, Nat.le_of_ble_eq_true rfl, xw_t1 211 rfl rfl, fun h => absurd h (by decide)⟩, List.forall_mem_cons.mpr ⟨⟨_, rfl, Nat.le_of_ble_eq_true rfl, xw_t1 82 rfl rfl, fun _ => ⟨rfl, rfl, rfl⟩⟩, List.forall_mem_cons.mpr ⟨⟨_, rfl, Nat.le_of_ble_eq_true rfl, xw_t1 183 rfl rfl, fun _ => ⟨rfl, rfl, rfl⟩⟩, List.forall_mem_cons.mpr ⟨⟨_, rfl, Nat.le_of_ble_eq_true rfl, xw_t1 140 rfl rfl, fun _ => ⟨rfl, rfl, rfl⟩⟩, List.forall_mem_cons.mpr ⟨⟨_, rfl, Nat.le_of_ble_eq_true rfl, xw_t1 144 rfl rfl, fun _ => ⟨rfl, rfl, rfl⟩⟩, List.forall_mem_cons.mpr ⟨⟨_, rfl, Nat.le_of_ble_eq_true rfl, xw_t1 147 rfl rfl, fun _ => ⟨rfl, rfl, rfl⟩⟩, List.forall_mem_cons.mpr ⟨⟨_, rfl, Nat.le_of_ble_eq_true rfl, xw_t1 119 rfl rfl, fun h => absurd h (by decide)⟩, List.forall_mem_cons.mpr ⟨⟨_, rfl, Nat.le_of_ble_eq_true rfl, xw_t1 123 rfl rfl, fun h => absurd h (by decide)⟩, List.forall_mem_cons.mpr ⟨⟨_, rfl, Nat.le_of_ble_eq_true rfl, xw_t1 207 rfl rfl, fun h => absurd h (by decide)⟩, List.forall_mem_cons.mpr ⟨⟨_, rfl, Nat.le_of_ble_eq_true rfl, xw_t1 203 rfl rfl, fun h => absurd h (by decide)⟩, List.forall_mem_cons.mpr ⟨⟨_, rfl, Nat.le_of_ble_eq_true rfl, xw_t1 213 rfl rfl, fun h => absurd h (by decide)⟩, fun _ h => absurd h List.not_mem_nil⟩⟩⟩⟩⟩⟩⟩⟩⟩⟩⟩⟩⟩⟩⟩⟩⟩⟩⟩⟩⟩⟩⟩⟩⟩⟩⟩⟩⟩⟩)
def XST_D : List (Nat × (Nat × Nat)) := [(323, (0, 4)), (326, (1, 4))]
theorem XST_D_ok : ∀ ix k kd, xfind XST_D ix = some (k, kd) → XStc RX8 ix k kd := xstc_of (List.forall_mem_cons.mpr ⟨⟨_, rfl, Or.inl (xw_t4 184 rfl rfl)⟩, List.forall_mem_cons.mpr ⟨⟨_, rfl, Or.inl (xw_t4 185 rfl rfl)⟩, fun _ h => absurd h List.not_mem_nil⟩⟩)
def XKT_D : List (Nat × Value) := [(329, .float (3212836864 : UInt32))]
theorem XKT_D_ok : ∀ q ∈ XKT_D, XKonst RX8 q := List.forall_mem_cons.mpr ⟨xw_t4 194 rfl rfl, fun _ h => absurd h List.not_mem_nil⟩
def XFT_H : List (Nat × (Nat × Nat × Nat)) := [(11, (1, 2, 4)), (18, (1, 0, 1)), (22, (1, 1, 1))]
theorem XFT_H_ok : ∀ ix d x kd, xfind XFT_H ix = some (d, x, kd) → XFld RX1 ix d x kd := xfld_of (List.forall_mem_cons.mpr ⟨⟨_, rfl, Nat.le_of_ble_eq_true rfl, xw_t1 185 rfl rfl, fun h => absurd h (by decide)⟩, List.forall_mem_cons.mpr ⟨⟨_, rfl, Nat.le_of_ble_eq_true rfl, xw_t1 182 rfl rfl, fun _ => ⟨rfl, rfl, rfl⟩⟩, List.forall_mem_cons.mpr ⟨⟨_, rfl, Nat.le_of_ble_eq_true rfl, xw_t1 184 rfl rfl, fun _ => ⟨rfl, rfl, rfl⟩⟩, fun _ h => absurd h List.not_mem_nil⟩⟩⟩)
def XST_H : List (Nat × (Nat × Nat)) := []
theorem XST_H_ok : ∀ ix k kd, xfind XST_H ix = some (k, kd) → XStc RX1 ix k kd := xstc_of (fun _ h => absurd h List.not_mem_nil)
def XKT_H : List (Nat × Value) := []
theorem XKT_H_ok : ∀ q ∈ XKT_H, XKonst RX1 q := fun _ h => absurd h List.not_mem_nil
def XFT_JA : List (Nat × (Nat × Nat × Nat)) := []
theorem XFT_JA_ok : ∀ ix d x kd, xfind XFT_JA ix = some (d, x, kd) → XFld RJ7 ix d x kd := xfld_of (fun _ h => absurd h List.not_mem_nil)
def XST_JA : List (Nat × (Nat × Nat)) := []
theorem XST_JA_ok : ∀ ix k kd, xfind XST_JA ix = some (k, kd) → XStc RJ7 ix k kd := xstc_of (fun _ h => absurd h List.not_mem_nil)
def XKT_JA : List (Nat × Value) := []
theorem XKT_JA_ok : ∀ q ∈ XKT_JA, XKonst RJ7 q := fun _ h => absurd h List.not_mem_nil
def XFT_JI : List (Nat × (Nat × Nat × Nat)) := []
theorem XFT_JI_ok : ∀ ix d x kd, xfind XFT_JI ix = some (d, x, kd) → XFld RJ6 ix d x kd := xfld_of (fun _ h => absurd h List.not_mem_nil)
def XST_JI : List (Nat × (Nat × Nat)) := []
theorem XST_JI_ok : ∀ ix k kd, xfind XST_JI ix = some (k, kd) → XStc RJ6 ix k kd := xstc_of (fun _ h => absurd h List.not_mem_nil)
def XKT_JI : List (Nat × Value) := [(265, .int (1431655765 : Int32)), (266, .int (858993459 : Int32)), (267, .int (252645135 : Int32))]
theorem XKT_JI_ok : ∀ q ∈ XKT_JI, XKonst RJ6 q := List.forall_mem_cons.mpr ⟨xw_t4 11 rfl rfl, List.forall_mem_cons.mpr ⟨xw_t4 12 rfl rfl, List.forall_mem_cons.mpr ⟨xw_t4 13 rfl rfl, fun _ h => absurd h List.not_mem_nil⟩⟩⟩
def XFT_JL : List (Nat × (Nat × Nat × Nat)) := []
theorem XFT_JL_ok : ∀ ix d x kd, xfind XFT_JL ix = some (d, x, kd) → XFld RJ1 ix d x kd := xfld_of (fun _ h => absurd h List.not_mem_nil)
def XST_JL : List (Nat × (Nat × Nat)) := []
theorem XST_JL_ok : ∀ ix k kd, xfind XST_JL ix = some (k, kd) → XStc RJ1 ix k kd := xstc_of (fun _ h => absurd h List.not_mem_nil)
def XKT_JL : List (Nat × Value) := []
theorem XKT_JL_ok : ∀ q ∈ XKT_JL, XKonst RJ1 q := fun _ h => absurd h List.not_mem_nil
def XFT_JS : List (Nat × (Nat × Nat × Nat)) := [(9, (10, 0, 4)), (15, (10, 1, 8))]
theorem XFT_JS_ok : ∀ ix d x kd, xfind XFT_JS ix = some (d, x, kd) → XFld RJ0 ix d x kd := xfld_of (List.forall_mem_cons.mpr ⟨⟨_, rfl, Nat.le_of_ble_eq_true rfl, xw_t8 108 rfl rfl, fun h => absurd h (by decide)⟩, List.forall_mem_cons.mpr ⟨⟨_, rfl, Nat.le_of_ble_eq_true rfl, xw_t8 109 rfl rfl, fun h => absurd h (by decide)⟩, fun _ h => absurd h List.not_mem_nil⟩⟩)
def XST_JS : List (Nat × (Nat × Nat)) := [(38, (3, 1)), (1053, (4, 0))]
theorem XST_JS_ok : ∀ ix k kd, xfind XST_JS ix = some (k, kd) → XStc RJ0 ix k kd := xstc_of (List.forall_mem_cons.mpr ⟨⟨_, rfl, Or.inl (xw_t5 8 rfl rfl)⟩, List.forall_mem_cons.mpr ⟨⟨_, rfl, Or.inl (xw_t5 24 rfl rfl)⟩, fun _ h => absurd h List.not_mem_nil⟩⟩)
def XKT_JS : List (Nat × Value) := []
theorem XKT_JS_ok : ∀ q ∈ XKT_JS, XKonst RJ0 q := fun _ h => absurd h List.not_mem_nil
def XFT_Lb : List (Nat × (Nat × Nat × Nat)) := [(9, (2, 1, 4)), (15, (2, 2, 4)), (18, (2, 0, 1)), (32, (0, 4, 4))]
theorem XFT_Lb_ok : ∀ ix d x kd, xfind XFT_Lb ix = some (d, x, kd) → XFld RX2 ix d x kd := xfld_of (List.forall_mem_cons.mpr ⟨⟨_, rfl, Nat.le_of_ble_eq_true rfl, xw_t1 83 rfl rfl, fun h => absurd h (by decide)⟩, List.forall_mem_cons.mpr ⟨⟨_, rfl, Nat.le_of_ble_eq_true rfl, xw_t1 84 rfl rfl, fun h => absurd h (by decide)⟩, List.forall_mem_cons.mpr ⟨⟨_, rfl, Nat.le_of_ble_eq_true rfl, xw_t1 80 rfl rfl, fun _ => ⟨rfl, rfl, rfl⟩⟩, List.forall_mem_cons.mpr ⟨⟨_, rfl, Nat.le_of_ble_eq_true rfl, xw_t1 206 rfl rfl, fun h => absurd h (by decide)⟩, fun _ h => absurd h List.not_mem_nil⟩⟩⟩⟩)
def XST_Lb : List (Nat × (Nat × Nat)) := []
theorem XST_Lb_ok : ∀ ix k kd, xfind XST_Lb ix = some (k, kd) → XStc RX2 ix k kd := xstc_of (fun _ h => absurd h List.not_mem_nil)
def XKT_Lb : List (Nat × Value) := []
theorem XKT_Lb_ok : ∀ q ∈ XKT_Lb, XKonst RX2 q := fun _ h => absurd h List.not_mem_nil
def XFT_Ln : List (Nat × (Nat × Nat × Nat)) := [(9, (3, 4, 4)), (15, (3, 5, 4)), (18, (3, 0, 1)), (22, (3, 1, 1)), (25, (3, 2, 1)), (28, (3, 3, 1))]
theorem XFT_Ln_ok : ∀ ix d x kd, xfind XFT_Ln ix = some (d, x, kd) → XFld RX3 ix d x kd := xfld_of (List.forall_mem_cons.mpr ⟨⟨_, rfl, Nat.le_of_ble_eq_true rfl, xw_t1 116 rfl rfl, fun h => absurd h (by decide)⟩, List.forall_mem_cons.mpr ⟨⟨_, rfl, Nat.le_of_ble_eq_true rfl, xw_t1 120 rfl rfl, fun h => absurd h (by decide)⟩, List.forall_mem_cons.mpr ⟨⟨_, rfl, Nat.le_of_ble_eq_true rfl, xw_t1 98 rfl rfl, fun _ => ⟨rfl, rfl, rfl⟩⟩, List.forall_mem_cons.mpr ⟨⟨_, rfl, Nat.le_of_ble_eq_true rfl, xw_t1 101 rfl rfl, fun _ => ⟨rfl, rfl, rfl⟩⟩, List.forall_mem_cons.mpr ⟨⟨_, rfl, Nat.le_of_ble_eq_true rfl, xw_t1 106 rfl rfl, fun _ => ⟨rfl, rfl, rfl⟩⟩, List.forall_mem_cons.mpr ⟨⟨_, rfl, Nat.le_of_ble_eq_true rfl, xw_t1 112 rfl rfl, fun _ => ⟨rfl, rfl, rfl⟩⟩, fun _ h => absurd h List.not_mem_nil⟩⟩⟩⟩⟩⟩)
def XST_Ln : List (Nat × (Nat × Nat)) := [(43, (2, 4))]
theorem XST_Ln_ok : ∀ ix k kd, xfind XST_Ln ix = some (k, kd) → XStc RX3 ix k kd := xstc_of (List.forall_mem_cons.mpr ⟨⟨_, rfl, Or.inr ⟨"LineDiagram", List.mem_of_getElem? (i := 8) rfl⟩⟩, fun _ h => absurd h List.not_mem_nil⟩)
def XKT_Ln : List (Nat × Value) := []
theorem XKT_Ln_ok : ∀ q ∈ XKT_Ln, XKonst RX3 q := fun _ h => absurd h List.not_mem_nil
def XFT_M : List (Nat × (Nat × Nat × Nat)) := [(7, (9, 0, 4)), (13, (9, 2, 1)), (17, (9, 7, 4)), (21, (9, 8, 4)), (24, (9, 9, 4)), (27, (9, 10, 4)), (30, (9, 11, 4)), (33, (9, 12, 4)), (37, (9, 14, 4)), (40, (9, 15, 4)), (43, (9, 16, 4)), (46, (9, 17, 4)), (49, (9, 18, 4)), (52, (9, 19, 4)), (55, (9, 20, 4)), (58, (9, 21, 4)), (61, (9, 36, 4)), (64, (9, 37, 4)), (67, (9, 38, 4)), (70, (9, 39, 4)), (73, (9, 3, 1)), (76, (9, 4, 1)), (79, (9, 5, 1)), (85, (9, 13, 1)), (100, (9, 6, 1)), (171, (9, 22, 1)), (208, (9, 23, 1)), (211, (9, 1, 1)), (226, (9, 26, 5)), (230, (9, 28, 1)), (236, (9, 24, 1)), (245, (9, 25, 1)), (248, (9, 27, 1)), (257, (9, 29, 2)), (277, (9, 33, 1)), (283, (9, 34, 1)), (292, (9, 32, 1)), (295, (9, 30, 1)), (298, (9, 31, 1)), (304, (9, 35, 1)), (451, (9, 40, 1)), (473, (9, 41, 1)), (476, (9, 42, 1)), (479, (9, 43, 1))]
theorem XFT_M_ok : ∀ ix d x kd, xfind XFT_M ix = some (d, x, kd) → XFld RX9 ix d x kd := xfld_of (List.forall_mem_cons.mpr ⟨⟨_, rfl, Nat.le_of_ble_eq_true rfl, xw_t5 85 rfl rfl, fun h => absurd h (by decide)⟩, List.forall_mem_cons.mpr ⟨⟨_, rfl, Nat.le_of_ble_eq_true rfl, xw_t5 87 rfl rfl, fun _ => ⟨rfl, rfl, rfl⟩⟩, List.forall_mem_cons.mpr ⟨⟨_, rfl, Nat.le_of_ble_eq_true rfl, xw_t5 92 rfl rfl, fun h => absurd h (by decide)⟩, List.forall_mem_cons.mpr ⟨⟨_, rfl, Nat.le_of_ble_eq_true rfl, xw_t5 93 rfl rfl, fun h => absurd h (by decide)⟩, List.forall_mem_cons.mpr ⟨⟨_, rfl, Nat.le_of_ble_eq_true rfl, xw_t5 94 rfl rfl, fun h => absurd h (by decide)⟩, List.forall_mem_cons.mpr ⟨⟨_, rfl, Nat.le_of_ble_eq_true rfl, xw_t5 95 rfl rfl, fun h => absurd h (by decide)⟩, List.forall_mem_cons.mpr ⟨⟨_, rfl, Nat.le_of_ble_eq_true rfl, xw_t5 96 rfl rfl, fun h => absurd h (by decide)⟩, List.forall_mem_cons.mpr ⟨⟨_, rfl, Nat.le_of_ble_eq_true rfl, xw_t5 97 rfl rfl, fun h => absurd h (by decide)⟩, List.forall_mem_cons.mpr ⟨⟨_, rfl, Nat.le_of_ble_eq_true rfl, xw_t5 99 rfl rfl, fun h => absurd h (by decide)⟩, List.forall_mem_cons.mpr ⟨⟨_, rfl, Nat.le_of_ble_eq_true rfl, xw_t5 100 rfl rfl, fun h => absurd h (by decide)⟩, List.forall_mem_cons.mpr ⟨⟨_, rfl, Nat.le_of_ble_eq_true rfl, xw_t5 101 rfl rfl, fun h => absurd h (by decide)⟩, List.forall_mem_cons.mpr ⟨⟨_, rfl, Nat.le_of_ble_eq_true rfl, xw_t5 102 rfl rfl, fun h => absurd h (by decide)⟩, List.forall_mem_cons.mpr ⟨⟨_, rfl, Nat.le_of_ble_eq_true rfl, xw_t5 103 rfl rfl, fun h => absurd h (by decide)⟩, List.forall_mem_cons.mpr ⟨⟨_, rfl, Nat.le_of_ble_eq_true rfl, xw_t5 104 rfl rfl, fun h => absurd h (by decide)⟩, List.forall_mem_cons.mpr ⟨⟨_, rfl, Nat.le_of_ble_eq_true rfl, xw_t5 105 rfl rfl, fun h => absurd h (by decide)⟩, List.forall_mem_cons.mpr ⟨⟨_, rfl, Nat.le_of_ble_eq_true rfl, xw_t5 106 rfl rfl, fun h => absurd h (by decide)⟩, List.forall_mem_cons.mpr ⟨⟨_, rfl, Nat.le_of_ble_eq_true rfl, xw_t5 121 rfl rfl, fun h => absurd h (by decide)⟩, List.forall_mem_cons.mpr ⟨⟨_, rfl, Nat.le_of_ble_eq_true rfl, xw_t5 122 rfl rfl, fun h => absurd h (by decide)⟩, List.forall_mem_cons.mpr ⟨⟨_, rfl, Nat.le_of_ble_eq_true rfl, xw_t5 123 rfl rfl, fun h => absurd h (by decide)⟩, List.forall_mem_cons.mpr ⟨⟨_, rfl, Nat.le_of_ble_eq_true rfl, xw_t5 124 rfl rfl, fun h => absurd h (by decide)⟩, List.forall_mem_cons.mpr ⟨⟨_, rfl, Nat.le_of_ble_eq_true rfl, xw_t5 88 rfl rfl, fun _ => ⟨rfl, rfl, rfl⟩⟩, List.forall_mem_cons.mpr ⟨⟨_, rfl, Nat.le_of_ble_eq_true rfl, xw_t5 89 rfl rfl, fun _ => ⟨rfl, rfl, rfl⟩⟩, List.forall_mem_cons.mpr ⟨⟨_, rfl, Nat.le_of_ble_eq_true rfl, xw_t5 90 rfl rfl, fun _ => ⟨rfl, rfl, rfl⟩⟩, List.forall_mem_cons.mpr ⟨⟨_, rfl, Nat.le_of_ble_eq_true rfl, xw_t5 98 rfl rfl, fun _ => ⟨rfl, rfl, rfl⟩⟩, List.forall_mem_cons.mpr ⟨⟨_, rfl, Nat.le_of_ble_eq_true rfl, xw_t5 91 rfl rfl, fun _ => ⟨rfl, rfl, rfl⟩⟩, List.forall_mem_cons.mpr ⟨⟨_, rfl, Nat.le_of_ble_eq_true rfl, xw_t5 107 rfl rfl, fun _ => ⟨rfl, rfl, rfl⟩⟩, List.forall_mem_cons.mpr ⟨⟨_, rfl, Nat.le_of_ble_eq_true rfl, xw_t5 108 rfl rfl, fun _ => ⟨rfl, rfl, rfl⟩⟩, List.forall_mem_cons.mpr ⟨⟨_, rfl, Nat.le_of_ble_eq_true rfl, xw_t5 86 rfl rfl, fun _ => ⟨rfl, rfl, rfl⟩⟩, List.forall_mem_cons.mpr ⟨⟨_, rfl, Nat.le_of_ble_eq_true rfl, xw_t5 111 rfl rfl, fun _ => ⟨rfl, rfl, rfl⟩⟩, List.forall_mem_cons.mpr ⟨⟨_, rfl, Nat.le_of_ble_eq_true rfl, xw_t5 113 rfl rfl, fun _ => ⟨rfl, rfl, rfl⟩⟩, List.forall_mem_cons.mpr ⟨⟨_, rfl, Nat.le_of_ble_eq_true rfl, xw_t5 109 rfl rfl, fun _ => ⟨rfl, rfl, rfl⟩⟩, List.forall_mem_cons.mpr ⟨⟨_, rfl, Nat.le_of_ble_eq_true rfl, xw_t5 110 rfl rfl, fun _ => ⟨rfl, rfl, rfl⟩⟩, List.forall_mem_cons.mpr ⟨⟨_, rfl, Nat.le_of_ble_eq_true rfl, xw_t5 112 rfl rfl, fun _ => ⟨rfl, rfl, rfl⟩⟩, List.forall_mem_cons.mpr ⟨⟨_, rfl, Nat.le_of_ble_eq_true rfl, xw_t5 114 rfl rfl, fun _ => ⟨rfl, rfl, rfl⟩⟩, List.forall_mem_cons.mpr ⟨⟨_, rfl, Nat.le_of_ble_eq_true rfl, xw_t5 118 rfl rfl, fun _ => ⟨rfl, rfl, rfl⟩⟩, List.forall_mem_cons.mpr ⟨⟨_, rfl, Nat.le_of_ble_eq_true rfl, xw_t5 119 rfl rfl, fun _ => ⟨rfl, rfl, rfl⟩⟩, List.forall_mem_cons.mpr ⟨⟨_, rfl, Nat.le_of_ble_eq_true rfl, xw_t5 117 rfl rfl, fun _ => ⟨rfl, rfl, rfl⟩⟩, List.forall_mem_cons.mpr ⟨⟨_, rfl, Nat.le_of_ble_eq_true rfl, xw_t5 115 rfl rfl, fun _ => ⟨rfl, rfl, rfl⟩⟩, List.forall_mem_cons.mpr ⟨⟨_, rfl, Nat.le_of_ble_eq_true rfl, xw_t5 116 rfl rfl, fun _ => ⟨rfl, rfl, rfl⟩⟩, List.forall_mem_cons.mpr ⟨⟨_, rfl, Nat.le_of_ble_eq_true rfl, xw_t5 120 rfl rfl, fun _ => ⟨rfl, rfl, rfl⟩⟩, List.forall_mem_cons.mpr ⟨⟨_, rfl, Nat.le_of_ble_eq_true rfl, xw_t5 125 rfl rfl, fun _ => ⟨rfl, rfl, rfl⟩⟩, List.forall_mem_cons.mpr ⟨⟨_, rfl, Nat.le_of_ble_eq_true rfl, xw_t5 126 rfl rfl, fun _ => ⟨rfl, rfl, rfl⟩⟩, List.forall_mem_cons.mpr ⟨⟨_, rfl, Nat.le_of_ble_eq_true rfl, xw_t5 127 rfl rfl, fun _ => ⟨rfl, rfl, rfl⟩⟩, List.forall_mem_cons.mpr ⟨⟨_, rfl, Nat.le_of_ble_eq_true rfl, xw_t5 128 rfl rfl, fun _ => ⟨rfl, rfl, rfl⟩⟩, fun _ h => absurd h List.not_mem_nil⟩⟩⟩⟩⟩⟩⟩⟩⟩⟩⟩⟩⟩⟩⟩⟩⟩⟩⟩⟩⟩⟩⟩⟩⟩⟩⟩⟩⟩⟩⟩⟩⟩⟩⟩⟩⟩⟩⟩⟩⟩⟩⟩⟩)
def XST_M : List (Nat × (Nat × Nat)) := []
theorem XST_M_ok : ∀ ix k kd, xfind XST_M ix = some (k, kd) → XStc RX9 ix k kd := xstc_of (fun _ h => absurd h List.not_mem_nil)
def XKT_M : List (Nat × Value) := [(214, .long (2590276 : Int64)), (216, .long (677454 : Int64)), (218, .long (402885 : Int64)), (220, .long (632645 : Int64)), (222, .long (20594195 : Int64)), (224, .long (52 : Int64)), (239, .long (32 : Int64)), (362, .long (2 : Int64)), (364, .long (20 : Int64)), (370, .long (10 : Int64)), (372, .long (7 : Int64)), (442, .int (1000000 : Int32)), (446, .long (4 : Int64)), (463, .long (3 : Int64)), (468, .int (999991 : Int32)), (469, .float (3212836864 : UInt32)), (482, .long (31 : Int64))]
theorem XKT_M_ok : ∀ q ∈ XKT_M, XKonst RX9 q := List.forall_mem_cons.mpr ⟨xw_t6 17 rfl rfl, List.forall_mem_cons.mpr ⟨xw_t6 18 rfl rfl, List.forall_mem_cons.mpr ⟨xw_t6 19 rfl rfl, List.forall_mem_cons.mpr ⟨xw_t6 20 rfl rfl, List.forall_mem_cons.mpr ⟨xw_t6 21 rfl rfl, List.forall_mem_cons.mpr ⟨xw_t6 22 rfl rfl, List.forall_mem_cons.mpr ⟨xw_t6 13 rfl rfl, List.forall_mem_cons.mpr ⟨xw_t7 27 rfl rfl, List.forall_mem_cons.mpr ⟨xw_t7 28 rfl rfl, List.forall_mem_cons.mpr ⟨xw_t7 37 rfl rfl, List.forall_mem_cons.mpr ⟨xw_t7 49 rfl rfl, List.forall_mem_cons.mpr ⟨xw_t7 188 rfl rfl, List.forall_mem_cons.mpr ⟨xw_t7 204 rfl rfl, List.forall_mem_cons.mpr ⟨xw_t8 17 rfl rfl, List.forall_mem_cons.mpr ⟨xw_t8 26 rfl rfl, List.forall_mem_cons.mpr ⟨xw_t8 35 rfl rfl, List.forall_mem_cons.mpr ⟨xw_t8 91 rfl rfl, fun _ h => absurd h List.not_mem_nil⟩⟩⟩⟩⟩⟩⟩⟩⟩⟩⟩⟩⟩⟩⟩⟩⟩
def XFT_P : List (Nat × (Nat × Nat × Nat)) := [(11, (5, 4, 4)), (20, (5, 5, 4)), (25, (5, 0, 1)), (29, (5, 1, 1)), (32, (5, 2, 1)), (35, (5, 3, 1)), (38, (2, 0, 1)), (48, (3, 2, 1)), (51, (3, 0, 1)), (54, (6, 0, 1)), (85, (3, 3, 1)), (90, (3, 1, 1)), (95, (3, 4, 4)), (99, (3, 5, 4))]
theorem XFT_P_ok : ∀ ix d x kd, xfind XFT_P ix = some (d, x, kd) → XFld RX5 ix d x kd := xfld_of (List.forall_mem_cons.mpr ⟨⟨_, rfl, Nat.le_of_ble_eq_true rfl, xw_t1 153 rfl rfl, fun h => absurd h (by decide)⟩, List.forall_mem_cons.mpr ⟨⟨_, rfl, Nat.le_of_ble_eq_true rfl, xw_t1 158 rfl rfl, fun h => absurd h (by decide)⟩, List.forall_mem_cons.mpr ⟨⟨_, rfl, Nat.le_of_ble_eq_true rfl, xw_t1 137 rfl rfl, fun _ => ⟨rfl, rfl, rfl⟩⟩, List.forall_mem_cons.mpr ⟨⟨_, rfl, Nat.le_of_ble_eq_true rfl, xw_t1 141 rfl rfl, fun _ => ⟨rfl, rfl, rfl⟩⟩, List.forall_mem_cons.mpr ⟨⟨_, rfl, Nat.le_of_ble_eq_true rfl, xw_t1 145 rfl rfl, fun _ => ⟨rfl, rfl, rfl⟩⟩, List.forall_mem_cons.mpr ⟨⟨_, rfl, Nat.le_of_ble_eq_true rfl, xw_t1 148 rfl rfl, fun _ => ⟨rfl, rfl, rfl⟩⟩, List.forall_mem_cons.mpr ⟨⟨_, rfl, Nat.le_of_ble_eq_true rfl, xw_t1 81 rfl rfl, fun _ => ⟨rfl, rfl, rfl⟩⟩, List.forall_mem_cons.mpr ⟨⟨_, rfl, Nat.le_of_ble_eq_true rfl, xw_t1 108 rfl rfl, fun _ => ⟨rfl, rfl, rfl⟩⟩, List.forall_mem_cons.mpr ⟨⟨_, rfl, Nat.le_of_ble_eq_true rfl, xw_t1 100 rfl rfl, fun _ => ⟨rfl, rfl, rfl⟩⟩, List.forall_mem_cons.mpr ⟨⟨_, rfl, Nat.le_of_ble_eq_true rfl, xw_t1 35 rfl rfl, fun _ => ⟨rfl, rfl, rfl⟩⟩, List.forall_mem_cons.mpr ⟨⟨_, rfl, Nat.le_of_ble_eq_true rfl, xw_t1 114 rfl rfl, fun _ => ⟨rfl, rfl, rfl⟩⟩, List.forall_mem_cons.mpr ⟨⟨_, rfl, Nat.le_of_ble_eq_true rfl, xw_t1 105 rfl rfl, fun _ => ⟨rfl, rfl, rfl⟩⟩, List.forall_mem_cons.mpr ⟨⟨_, rfl, Nat.le_of_ble_eq_true rfl, xw_t1 118 rfl rfl, fun h => absurd h (by decide)⟩, List.forall_mem_cons.mpr ⟨⟨_, rfl, Nat.le_of_ble_eq_true rfl, xw_t1 122 rfl rfl, fun h => absurd h (by decide)⟩, fun _ h => absurd h List.not_mem_nil⟩⟩⟩⟩⟩⟩⟩⟩⟩⟩⟩⟩⟩⟩)
def XST_P : List (Nat × (Nat × Nat)) := [(59, (0, 7)), (69, (1, 7)), (78, (2, 7)), (83, (3, 7)), (88, (4, 7)), (93, (5, 7))]
theorem XST_P_ok : ∀ ix k kd, xfind XST_P ix = some (k, kd) → XStc RX5 ix k kd := xstc_of (List.forall_mem_cons.mpr ⟨⟨_, rfl, rfl, rfl⟩, List.forall_mem_cons.mpr ⟨⟨_, rfl, rfl, rfl⟩, List.forall_mem_cons.mpr ⟨⟨_, rfl, rfl, rfl⟩, List.forall_mem_cons.mpr ⟨⟨_, rfl, rfl, rfl⟩, List.forall_mem_cons.mpr ⟨⟨_, rfl, rfl, rfl⟩, List.forall_mem_cons.mpr ⟨⟨_, rfl, rfl, rfl⟩, fun _ h => absurd h List.not_mem_nil⟩⟩⟩⟩⟩⟩)
def XKT_P : List (Nat × Value) := []
theorem XKT_P_ok : ∀ q ∈ XKT_P, XKonst RX5 q := fun _ h => absurd h List.not_mem_nil
def XFT_Ps : List (Nat × (Nat × Nat × Nat)) := [(9, (4, 0, 1)), (23, (4, 1, 1)), (26, (4, 2, 1)), (29, (5, 4, 4)), (42, (5, 3, 1)), (53, (4, 4, 1)), (60, (3, 1, 1)), (65, (4, 3, 1)), (72, (3, 0, 1)), (75, (3, 3, 1)), (78, (3, 2, 1)), (81, (5, 0, 1)), (84, (5, 1, 1)), (94, (5, 2, 1)), (105, (6, 0, 1))]
theorem XFT_Ps_ok : ∀ ix d x kd, xfind XFT_Ps ix = some (d, x, kd) → XFld RX4 ix d x kd := xfld_of (List.forall_mem_cons.mpr ⟨⟨_, rfl, Nat.le_of_ble_eq_true rfl, xw_t1 50 rfl rfl, fun _ => ⟨rfl, rfl, rfl⟩⟩, List.forall_mem_cons.mpr ⟨⟨_, rfl, Nat.le_of_ble_eq_true rfl, xw_t1 51 rfl rfl, fun _ => ⟨rfl, rfl, rfl⟩⟩, List.forall_mem_cons.mpr ⟨⟨_, rfl, Nat.le_of_ble_eq_true rfl, xw_t1 52 rfl rfl, fun _ => ⟨rfl, rfl, rfl⟩⟩, List.forall_mem_cons.mpr ⟨⟨_, rfl, Nat.le_of_ble_eq_true rfl, xw_t1 154 rfl rfl, fun h => absurd h (by decide)⟩, List.forall_mem_cons.mpr ⟨⟨_, rfl, Nat.le_of_ble_eq_true rfl, xw_t1 149 rfl rfl, fun _ => ⟨rfl, rfl, rfl⟩⟩, List.forall_mem_cons.mpr ⟨⟨_, rfl, Nat.le_of_ble_eq_true rfl, xw_t1 54 rfl rfl, fun _ => ⟨rfl, rfl, rfl⟩⟩, List.forall_mem_cons.mpr ⟨⟨_, rfl, Nat.le_of_ble_eq_true rfl, xw_t1 102 rfl rfl, fun _ => ⟨rfl, rfl, rfl⟩⟩, List.forall_mem_cons.mpr ⟨⟨_, rfl, Nat.le_of_ble_eq_true rfl, xw_t1 53 rfl rfl, fun _ => ⟨rfl, rfl, rfl⟩⟩, List.forall_mem_cons.mpr ⟨⟨_, rfl, Nat.le_of_ble_eq_true rfl, xw_t1 99 rfl rfl, fun _ => ⟨rfl, rfl, rfl⟩⟩, List.forall_mem_cons.mpr ⟨⟨_, rfl, Nat.le_of_ble_eq_true rfl, xw_t1 113 rfl rfl, fun _ => ⟨rfl, rfl, rfl⟩⟩, List.forall_mem_cons.mpr ⟨⟨_, rfl, Nat.le_of_ble_eq_true rfl, xw_t1 109 rfl rfl, fun _ => ⟨rfl, rfl, rfl⟩⟩, List.forall_mem_cons.mpr ⟨⟨_, rfl, Nat.le_of_ble_eq_true rfl, xw_t1 139 rfl rfl, fun _ => ⟨rfl, rfl, rfl⟩⟩, List.forall_mem_cons.mpr ⟨⟨_, rfl, Nat.le_of_ble_eq_true rfl, xw_t1 143 rfl rfl, fun _ => ⟨rfl, rfl, rfl⟩⟩, List.forall_mem_cons.mpr ⟨⟨_, rfl, Nat.le_of_ble_eq_true rfl, xw_t1 146 rfl rfl, fun _ => ⟨rfl, rfl, rfl⟩⟩, List.forall_mem_cons.mpr ⟨⟨_, rfl, Nat.le_of_ble_eq_true rfl, xw_t1 36 rfl rfl, fun _ => ⟨rfl, rfl, rfl⟩⟩, fun _ h => absurd h List.not_mem_nil⟩⟩⟩⟩⟩⟩⟩⟩⟩⟩⟩⟩⟩⟩⟩)
def XST_Ps : List (Nat × (Nat × Nat)) := []
theorem XST_Ps_ok : ∀ ix k kd, xfind XST_Ps ix = some (k, kd) → XStc RX4 ix k kd := xstc_of (fun _ h => absurd h List.not_mem_nil)
def XKT_Ps : List (Nat × Value) := []
theorem XKT_Ps_ok : ∀ q ∈ XKT_Ps, XKonst RX4 q := fun _ h => absurd h List.not_mem_nil
def XFT_T : List (Nat × (Nat × Nat × Nat)) := [(9, (6, 1, 4)), (15, (6, 0, 1))]
theorem XFT_T_ok : ∀ ix d x kd, xfind XFT_T ix = some (d, x, kd) → XFld RX6 ix d x kd := xfld_of (List.forall_mem_cons.mpr ⟨⟨_, rfl, Nat.le_of_ble_eq_true rfl, xw_t1 37 rfl rfl, fun h => absurd h (by decide)⟩, List.forall_mem_cons.mpr ⟨⟨_, rfl, Nat.le_of_ble_eq_true rfl, xw_t1 34 rfl rfl, fun _ => ⟨rfl, rfl, rfl⟩⟩, fun _ h => absurd h List.not_mem_nil⟩⟩)
def XST_T : List (Nat × (Nat × Nat)) := []
theorem XST_T_ok : ∀ ix k kd, xfind XST_T ix = some (k, kd) → XStc RX6 ix k kd := xstc_of (fun _ h => absurd h List.not_mem_nil)
def XKT_T : List (Nat × Value) := []
theorem XKT_T_ok : ∀ q ∈ XKT_T, XKonst RX6 q := fun _ h => absurd h List.not_mem_nil
def XFT_Tv : List (Nat × (Nat × Nat × Nat)) := [(9, (7, 0, 4)), (29, (5, 3, 1)), (35, (5, 4, 4)), (39, (3, 2, 1)), (54, (0, 5, 4))]
theorem XFT_Tv_ok : ∀ ix d x kd, xfind XFT_Tv ix = some (d, x, kd) → XFld RX7 ix d x kd := xfld_of (List.forall_mem_cons.mpr ⟨⟨_, rfl, Nat.le_of_ble_eq_true rfl, xw_t2 0 rfl rfl, fun h => absurd h (by decide)⟩, List.forall_mem_cons.mpr ⟨⟨_, rfl, Nat.le_of_ble_eq_true rfl, xw_t1 150 rfl rfl, fun _ => ⟨rfl, rfl, rfl⟩⟩, List.forall_mem_cons.mpr ⟨⟨_, rfl, Nat.le_of_ble_eq_true rfl, xw_t1 155 rfl rfl, fun h => absurd h (by decide)⟩, List.forall_mem_cons.mpr ⟨⟨_, rfl, Nat.le_of_ble_eq_true rfl, xw_t1 107 rfl rfl, fun _ => ⟨rfl, rfl, rfl⟩⟩, List.forall_mem_cons.mpr ⟨⟨_, rfl, Nat.le_of_ble_eq_true rfl, xw_t1 209 rfl rfl, fun h => absurd h (by decide)⟩, fun _ h => absurd h List.not_mem_nil⟩⟩⟩⟩⟩)
def XST_Tv : List (Nat × (Nat × Nat)) := []
theorem XST_Tv_ok : ∀ ix k kd, xfind XST_Tv ix = some (k, kd) → XStc RX7 ix k kd := xstc_of (fun _ h => absurd h List.not_mem_nil)
def XKT_Tv : List (Nat × Value) := []
theorem XKT_Tv_ok : ∀ q ∈ XKT_Tv, XKonst RX7 q := fun _ h => absurd h List.not_mem_nil
theorem cdT_addByte : Cond.code yX6_addByte cX6_addByte 2 none ∈ xw := xw_t2 65 rfl rfl
theorem inT_addByte : Cond.initialized yX6_addByte.cls ∈ xw := xw_t1 2 rfl rfl
theorem imT_addByte : Cond.instanceMethod yX6_addByte ∈ xw := xw_t2 63 rfl rfl
theorem slT_addByte : Cond.selects RX6 yX6_addByte yX6_addByte ∈ xw := xw_t2 64 rfl rfl
theorem pmT_addByte : yX6_addByte.cls ≠ "java/lang/invoke/MethodHandle" ∧ yX6_addByte.cls ≠ "java/lang/invoke/VarHandle" ∧ (parseMethodDescriptor yX6_addByte.desc).map (fun d => d.parameters.length + 1) = some 2 := by decide +kernel
theorem cdT_addInt : Cond.code yX6_addInt cX6_addInt 2 none ∈ xw := xw_t2 61 rfl rfl
theorem inT_addInt : Cond.initialized yX6_addInt.cls ∈ xw := xw_t1 2 rfl rfl
theorem imT_addInt : Cond.instanceMethod yX6_addInt ∈ xw := xw_t2 59 rfl rfl
theorem slT_addInt : Cond.selects RX6 yX6_addInt yX6_addInt ∈ xw := xw_t2 60 rfl rfl
theorem pmT_addInt : yX6_addInt.cls ≠ "java/lang/invoke/MethodHandle" ∧ yX6_addInt.cls ≠ "java/lang/invoke/VarHandle" ∧ (parseMethodDescriptor yX6_addInt.desc).map (fun d => d.parameters.length + 1) = some 2 := by decide +kernel
theorem lkT_19 : Cond.methodLink RX6 19 yX6_addByte ∈ xw := xw_t2 62 rfl rfl
theorem cdD_append : Cond.code yX8_append cX8_append 6 (some .int) ∈ xw := xw_t2 57 rfl rfl
theorem inD_append : Cond.initialized yX8_append.cls ∈ xw := xw_t1 1 rfl rfl
theorem imD_append : Cond.instanceMethod yX8_append ∈ xw := xw_t2 55 rfl rfl
theorem slD_append : Cond.selects RX8 yX8_append yX8_append ∈ xw := xw_t2 56 rfl rfl
theorem pmD_append : yX8_append.cls ≠ "java/lang/invoke/MethodHandle" ∧ yX8_append.cls ≠ "java/lang/invoke/VarHandle" ∧ (parseMethodDescriptor yX8_append.desc).map (fun d => d.parameters.length + 1) = some 6 := by decide +kernel
theorem lkD_86 : Cond.methodLink RX8 86 yX6_addInt ∈ xw := xw_t2 58 rfl rfl
theorem cdM_feeds : Cond.code yX9_feeds cX9_feeds 3 none ∈ xw := xw_t5 225 rfl rfl
theorem inM_feeds : Cond.initialized yX9_feeds.cls ∈ xw := xw_t1 11 rfl rfl
theorem imM_feeds : Cond.instanceMethod yX9_feeds ∈ xw := xw_t5 224 rfl rfl
theorem slM_feeds : Cond.selects RX9 yX9_feeds yX9_feeds ∈ xw := xw_p3 4 44 rfl rfl
theorem pmM_feeds : yX9_feeds.cls ≠ "java/lang/invoke/MethodHandle" ∧ yX9_feeds.cls ≠ "java/lang/invoke/VarHandle" ∧ (parseMethodDescriptor yX9_feeds.desc).map (fun d => d.parameters.length + 1) = some 2 := by decide +kernel
theorem cdM_append : Cond.code yX9_append cX9_append 6 (some .int) ∈ xw := xw_t5 221 rfl rfl
theorem inM_append : Cond.initialized yX9_append.cls ∈ xw := xw_t1 11 rfl rfl
theorem imM_append : Cond.instanceMethod yX9_append ∈ xw := xw_t5 219 rfl rfl
theorem slM_append : Cond.selects RX9 yX9_append yX9_append ∈ xw := xw_t5 220 rfl rfl
theorem pmM_append : yX9_append.cls ≠ "java/lang/invoke/MethodHandle" ∧ yX9_append.cls ≠ "java/lang/invoke/VarHandle" ∧ (parseMethodDescriptor yX9_append.desc).map (fun d => d.parameters.length + 1) = some 6 := by decide +kernel
theorem lkM_321 : Cond.methodLink RX9 321 yX9_feeds ∈ xw := xw_t5 222 rfl rfl
theorem cdD_truncate : Cond.code yX8_truncate cX8_truncate 2 (some .int) ∈ xw := xw_t2 69 rfl rfl
theorem inD_truncate : Cond.initialized yX8_truncate.cls ∈ xw := xw_t1 1 rfl rfl
theorem imD_truncate : Cond.instanceMethod yX8_truncate ∈ xw := xw_t2 67 rfl rfl
theorem slD_truncate : Cond.selects RX8 yX8_truncate yX8_truncate ∈ xw := xw_t2 68 rfl rfl
theorem pmD_truncate : yX8_truncate.cls ≠ "java/lang/invoke/MethodHandle" ∧ yX8_truncate.cls ≠ "java/lang/invoke/VarHandle" ∧ (parseMethodDescriptor yX8_truncate.desc).map (fun d => d.parameters.length + 1) = some 2 := by decide +kernel
theorem cdM_in : Cond.code yX9_in cX9_in 6 (some .boolean) ∈ xw := xw_t5 232 rfl rfl
theorem inM_in : Cond.initialized yX9_in.cls ∈ xw := xw_t1 11 rfl rfl
theorem imM_in : Cond.static yX9_in ∈ xw := xw_t5 231 rfl rfl
theorem pmM_in : yX9_in.cls ≠ "java/lang/invoke/MethodHandle" ∧ yX9_in.cls ≠ "java/lang/invoke/VarHandle" ∧ (parseMethodDescriptor yX9_in.desc).map (fun d => d.parameters.length) = some 3 := by decide +kernel
theorem cdM_truncate : Cond.code yX9_truncate cX9_truncate 2 (some .int) ∈ xw := xw_t5 229 rfl rfl
theorem inM_truncate : Cond.initialized yX9_truncate.cls ∈ xw := xw_t1 11 rfl rfl
theorem imM_truncate : Cond.instanceMethod yX9_truncate ∈ xw := xw_t5 227 rfl rfl
theorem slM_truncate : Cond.selects RX9 yX9_truncate yX9_truncate ∈ xw := xw_t5 228 rfl rfl
theorem pmM_truncate : yX9_truncate.cls ≠ "java/lang/invoke/MethodHandle" ∧ yX9_truncate.cls ≠ "java/lang/invoke/VarHandle" ∧ (parseMethodDescriptor yX9_truncate.desc).map (fun d => d.parameters.length + 1) = some 2 := by decide +kernel
theorem lkM_96 : Cond.methodLink RX9 96 yX9_in ∈ xw ∨ ∃ host, Cond.methodLinkNest RX9 96 yX9_in host ∈ xnw := Or.inl (xw_t5 230 rfl rfl)
theorem cdT_byteAt : Cond.code yX6_byteAt cX6_byteAt 2 (some .int) ∈ xw := xw_t2 85 rfl rfl
theorem inT_byteAt : Cond.initialized yX6_byteAt.cls ∈ xw := xw_t1 2 rfl rfl
theorem imT_byteAt : Cond.instanceMethod yX6_byteAt ∈ xw := xw_t2 83 rfl rfl
theorem slT_byteAt : Cond.selects RX6 yX6_byteAt yX6_byteAt ∈ xw := xw_t2 84 rfl rfl
theorem pmT_byteAt : yX6_byteAt.cls ≠ "java/lang/invoke/MethodHandle" ∧ yX6_byteAt.cls ≠ "java/lang/invoke/VarHandle" ∧ (parseMethodDescriptor yX6_byteAt.desc).map (fun d => d.parameters.length + 1) = some 2 := by decide +kernel
theorem cdPs_isBlank : Cond.code yX4_isBlank cX4_isBlank 1 (some .boolean) ∈ xw := xw_t2 88 rfl rfl
theorem inPs_isBlank : Cond.initialized yX4_isBlank.cls ∈ xw := xw_t1 3 rfl rfl
theorem imPs_isBlank : Cond.static yX4_isBlank ∈ xw := xw_t2 87 rfl rfl
theorem pmPs_isBlank : yX4_isBlank.cls ≠ "java/lang/invoke/MethodHandle" ∧ yX4_isBlank.cls ≠ "java/lang/invoke/VarHandle" ∧ (parseMethodDescriptor yX4_isBlank.desc).map (fun d => d.parameters.length) = some 1 := by decide +kernel
theorem cdPs_isLetter : Cond.code yX4_isLetter cX4_isLetter 1 (some .boolean) ∈ xw := xw_t2 91 rfl rfl
theorem inPs_isLetter : Cond.initialized yX4_isLetter.cls ∈ xw := xw_t1 3 rfl rfl
theorem imPs_isLetter : Cond.static yX4_isLetter ∈ xw := xw_t2 90 rfl rfl
theorem pmPs_isLetter : yX4_isLetter.cls ≠ "java/lang/invoke/MethodHandle" ∧ yX4_isLetter.cls ≠ "java/lang/invoke/VarHandle" ∧ (parseMethodDescriptor yX4_isLetter.desc).map (fun d => d.parameters.length) = some 1 := by decide +kernel
theorem cdD_shiftOf : Cond.code yX8_shiftOf cX8_shiftOf 1 (some .int) ∈ xw := xw_t2 98 rfl rfl
theorem inD_shiftOf : Cond.initialized yX8_shiftOf.cls ∈ xw := xw_t1 1 rfl rfl
theorem imD_shiftOf : Cond.static yX8_shiftOf ∈ xw := xw_t2 97 rfl rfl
theorem pmD_shiftOf : yX8_shiftOf.cls ≠ "java/lang/invoke/MethodHandle" ∧ yX8_shiftOf.cls ≠ "java/lang/invoke/VarHandle" ∧ (parseMethodDescriptor yX8_shiftOf.desc).map (fun d => d.parameters.length) = some 1 := by decide +kernel
theorem cdPs_kindOfWord : Cond.code yX4_kindOfWord cX4_kindOfWord 1 (some .int) ∈ xw := xw_t2 101 rfl rfl
theorem inPs_kindOfWord : Cond.initialized yX4_kindOfWord.cls ∈ xw := xw_t1 3 rfl rfl
theorem imPs_kindOfWord : Cond.static yX4_kindOfWord ∈ xw := xw_t2 100 rfl rfl
theorem pmPs_kindOfWord : yX4_kindOfWord.cls ≠ "java/lang/invoke/MethodHandle" ∧ yX4_kindOfWord.cls ≠ "java/lang/invoke/VarHandle" ∧ (parseMethodDescriptor yX4_kindOfWord.desc).map (fun d => d.parameters.length) = some 1 := by decide +kernel
theorem cdPs_scanWord : Cond.code yX4_scanWord cX4_scanWord 3 none ∈ xw := xw_t2 95 rfl rfl
theorem inPs_scanWord : Cond.initialized yX4_scanWord.cls ∈ xw := xw_t1 3 rfl rfl
theorem imPs_scanWord : Cond.instanceMethod yX4_scanWord ∈ xw := xw_t2 94 rfl rfl
theorem slPs_scanWord : Cond.selects RX4 yX4_scanWord yX4_scanWord ∈ xw := xw_p1 1 5 rfl rfl
theorem pmPs_scanWord : yX4_scanWord.cls ≠ "java/lang/invoke/MethodHandle" ∧ yX4_scanWord.cls ≠ "java/lang/invoke/VarHandle" ∧ (parseMethodDescriptor yX4_scanWord.desc).map (fun d => d.parameters.length + 1) = some 2 := by decide +kernel
theorem lkPs_110 : Cond.methodLink RX4 110 yX6_byteAt ∈ xw := xw_t2 82 rfl rfl
theorem lkPs_116 : Cond.methodLink RX4 116 yX4_isLetter ∈ xw ∨ ∃ host, Cond.methodLinkNest RX4 116 yX4_isLetter host ∈ xnw := Or.inl (xw_t2 89 rfl rfl)
theorem lkPs_128 : Cond.methodLink RX4 128 yX8_shiftOf ∈ xw ∨ ∃ host, Cond.methodLinkNest RX4 128 yX8_shiftOf host ∈ xnw := Or.inr ⟨"LineDiagram", List.mem_of_getElem? (i := 7) rfl⟩
theorem lkPs_131 : Cond.methodLink RX4 131 yX4_kindOfWord ∈ xw ∨ ∃ host, Cond.methodLinkNest RX4 131 yX4_kindOfWord host ∈ xnw := Or.inl (xw_t2 99 rfl rfl)
theorem cdPs_isDigit : Cond.code yX4_isDigit cX4_isDigit 1 (some .boolean) ∈ xw := xw_t2 104 rfl rfl
theorem inPs_isDigit : Cond.initialized yX4_isDigit.cls ∈ xw := xw_t1 3 rfl rfl
theorem imPs_isDigit : Cond.static yX4_isDigit ∈ xw := xw_t2 103 rfl rfl
theorem pmPs_isDigit : yX4_isDigit.cls ≠ "java/lang/invoke/MethodHandle" ∧ yX4_isDigit.cls ≠ "java/lang/invoke/VarHandle" ∧ (parseMethodDescriptor yX4_isDigit.desc).map (fun d => d.parameters.length) = some 1 := by decide +kernel
theorem cdPs_scanNumber : Cond.code yX4_scanNumber cX4_scanNumber 3 none ∈ xw := xw_t2 108 rfl rfl
theorem inPs_scanNumber : Cond.initialized yX4_scanNumber.cls ∈ xw := xw_t1 3 rfl rfl
theorem imPs_scanNumber : Cond.instanceMethod yX4_scanNumber ∈ xw := xw_t2 107 rfl rfl
theorem slPs_scanNumber : Cond.selects RX4 yX4_scanNumber yX4_scanNumber ∈ xw := xw_p1 2 5 rfl rfl
theorem pmPs_scanNumber : yX4_scanNumber.cls ≠ "java/lang/invoke/MethodHandle" ∧ yX4_scanNumber.cls ≠ "java/lang/invoke/VarHandle" ∧ (parseMethodDescriptor yX4_scanNumber.desc).map (fun d => d.parameters.length + 1) = some 2 := by decide +kernel
theorem lkPs_122 : Cond.methodLink RX4 122 yX4_isDigit ∈ xw ∨ ∃ host, Cond.methodLinkNest RX4 122 yX4_isDigit host ∈ xnw := Or.inl (xw_t2 102 rfl rfl)
theorem cdPs_scan : Cond.code yX4_scan cX4_scan 3 none ∈ xw := xw_t2 81 rfl rfl
theorem inPs_scan : Cond.initialized yX4_scan.cls ∈ xw := xw_t1 3 rfl rfl
theorem imPs_scan : Cond.instanceMethod yX4_scan ∈ xw := xw_t2 80 rfl rfl
theorem slPs_scan : Cond.selects RX4 yX4_scan yX4_scan ∈ xw := xw_p1 0 5 rfl rfl
theorem pmPs_scan : yX4_scan.cls ≠ "java/lang/invoke/MethodHandle" ∧ yX4_scan.cls ≠ "java/lang/invoke/VarHandle" ∧ (parseMethodDescriptor yX4_scan.desc).map (fun d => d.parameters.length + 1) = some 2 := by decide +kernel
theorem lkPs_113 : Cond.methodLink RX4 113 yX4_isBlank ∈ xw ∨ ∃ host, Cond.methodLinkNest RX4 113 yX4_isBlank host ∈ xnw := Or.inl (xw_t2 86 rfl rfl)
theorem lkPs_119 : Cond.methodLink RX4 119 yX4_scanWord ∈ xw := xw_t2 92 rfl rfl
theorem lkPs_125 : Cond.methodLink RX4 125 yX4_scanNumber ∈ xw := xw_t2 105 rfl rfl
theorem cdPs_pass : Cond.code yX4_pass cX4_pass 3 (some .boolean) ∈ xw := xw_t2 116 rfl rfl
theorem inPs_pass : Cond.initialized yX4_pass.cls ∈ xw := xw_t1 3 rfl rfl
theorem imPs_pass : Cond.instanceMethod yX4_pass ∈ xw := xw_t2 115 rfl rfl
theorem slPs_pass : Cond.selects RX4 yX4_pass yX4_pass ∈ xw := xw_p1 4 5 rfl rfl
theorem pmPs_pass : yX4_pass.cls ≠ "java/lang/invoke/MethodHandle" ∧ yX4_pass.cls ≠ "java/lang/invoke/VarHandle" ∧ (parseMethodDescriptor yX4_pass.desc).map (fun d => d.parameters.length + 1) = some 3 := by decide +kernel
theorem lkPs_15 : Cond.methodLink RX4 15 yX4_scan ∈ xw := xw_t2 78 rfl rfl
theorem cdPs_isNumber : Cond.code yX4_isNumber cX4_isNumber 3 (some .boolean) ∈ xw := xw_t2 124 rfl rfl
theorem inPs_isNumber : Cond.initialized yX4_isNumber.cls ∈ xw := xw_t1 3 rfl rfl
theorem imPs_isNumber : Cond.instanceMethod yX4_isNumber ∈ xw := xw_t2 123 rfl rfl
theorem slPs_isNumber : Cond.selects RX4 yX4_isNumber yX4_isNumber ∈ xw := xw_p1 6 5 rfl rfl
theorem pmPs_isNumber : yX4_isNumber.cls ≠ "java/lang/invoke/MethodHandle" ∧ yX4_isNumber.cls ≠ "java/lang/invoke/VarHandle" ∧ (parseMethodDescriptor yX4_isNumber.desc).map (fun d => d.parameters.length + 1) = some 3 := by decide +kernel
theorem cdPs_readNumber : Cond.code yX4_readNumber cX4_readNumber 4 (some .boolean) ∈ xw := xw_t2 120 rfl rfl
theorem inPs_readNumber : Cond.initialized yX4_readNumber.cls ∈ xw := xw_t1 3 rfl rfl
theorem imPs_readNumber : Cond.instanceMethod yX4_readNumber ∈ xw := xw_t2 119 rfl rfl
theorem slPs_readNumber : Cond.selects RX4 yX4_readNumber yX4_readNumber ∈ xw := xw_p1 5 5 rfl rfl
theorem pmPs_readNumber : yX4_readNumber.cls ≠ "java/lang/invoke/MethodHandle" ∧ yX4_readNumber.cls ≠ "java/lang/invoke/VarHandle" ∧ (parseMethodDescriptor yX4_readNumber.desc).map (fun d => d.parameters.length + 1) = some 4 := by decide +kernel
theorem lkPs_87 : Cond.methodLink RX4 87 yX4_isNumber ∈ xw := xw_t2 121 rfl rfl
theorem cdP_begin : Cond.code yX5_begin cX5_begin 4 none ∈ xw := xw_t2 9 rfl rfl
theorem inP_begin : Cond.initialized yX5_begin.cls ∈ xw := xw_t1 4 rfl rfl
theorem imP_begin : Cond.instanceMethod yX5_begin ∈ xw := xw_t2 7 rfl rfl
theorem slP_begin : Cond.selects RX5 yX5_begin yX5_begin ∈ xw := xw_t2 8 rfl rfl
theorem pmP_begin : yX5_begin.cls ≠ "java/lang/invoke/MethodHandle" ∧ yX5_begin.cls ≠ "java/lang/invoke/VarHandle" ∧ (parseMethodDescriptor yX5_begin.desc).map (fun d => d.parameters.length + 1) = some 4 := by decide +kernel
theorem cdPs_readBoard : Cond.code yX4_readBoard cX4_readBoard 5 (some .boolean) ∈ xw := xw_t2 112 rfl rfl
theorem inPs_readBoard : Cond.initialized yX4_readBoard.cls ∈ xw := xw_t1 3 rfl rfl
theorem imPs_readBoard : Cond.instanceMethod yX4_readBoard ∈ xw := xw_t2 111 rfl rfl
theorem slPs_readBoard : Cond.selects RX4 yX4_readBoard yX4_readBoard ∈ xw := xw_p1 3 5 rfl rfl
theorem pmPs_readBoard : yX4_readBoard.cls ≠ "java/lang/invoke/MethodHandle" ∧ yX4_readBoard.cls ≠ "java/lang/invoke/VarHandle" ∧ (parseMethodDescriptor yX4_readBoard.desc).map (fun d => d.parameters.length + 1) = some 3 := by decide +kernel
theorem lkPs_45 : Cond.methodLink RX4 45 yX4_pass ∈ xw := xw_t2 113 rfl rfl
theorem lkPs_49 : Cond.methodLink RX4 49 yX4_readNumber ∈ xw := xw_t2 117 rfl rfl
theorem lkPs_56 : Cond.methodLink RX4 56 yX5_begin ∈ xw := xw_t2 125 rfl rfl
theorem cdP_lineNamed : Cond.code yX5_lineNamed cX5_lineNamed 3 (some .int) ∈ xw := xw_t2 133 rfl rfl
theorem inP_lineNamed : Cond.initialized yX5_lineNamed.cls ∈ xw := xw_t1 4 rfl rfl
theorem imP_lineNamed : Cond.instanceMethod yX5_lineNamed ∈ xw := xw_t2 131 rfl rfl
theorem slP_lineNamed : Cond.selects RX5 yX5_lineNamed yX5_lineNamed ∈ xw := xw_t2 132 rfl rfl
theorem pmP_lineNamed : yX5_lineNamed.cls ≠ "java/lang/invoke/MethodHandle" ∧ yX5_lineNamed.cls ≠ "java/lang/invoke/VarHandle" ∧ (parseMethodDescriptor yX5_lineNamed.desc).map (fun d => d.parameters.length + 1) = some 2 := by decide +kernel
theorem cdPs_readHead : Cond.code yX4_readHead cX4_readHead 4 (some .boolean) ∈ xw := xw_t2 129 rfl rfl
theorem inPs_readHead : Cond.initialized yX4_readHead.cls ∈ xw := xw_t1 3 rfl rfl
theorem imPs_readHead : Cond.instanceMethod yX4_readHead ∈ xw := xw_t2 128 rfl rfl
theorem slPs_readHead : Cond.selects RX4 yX4_readHead yX4_readHead ∈ xw := xw_p1 7 5 rfl rfl
theorem pmPs_readHead : yX4_readHead.cls ≠ "java/lang/invoke/MethodHandle" ∧ yX4_readHead.cls ≠ "java/lang/invoke/VarHandle" ∧ (parseMethodDescriptor yX4_readHead.desc).map (fun d => d.parameters.length + 1) = some 4 := by decide +kernel
theorem lkPs_68 : Cond.methodLink RX4 68 yX5_lineNamed ∈ xw := xw_t2 130 rfl rfl
theorem cdLn_insertPoint : Cond.code yX3_insertPoint cX3_insertPoint 5 none ∈ xw := xw_t2 141 rfl rfl
theorem inLn_insertPoint : Cond.initialized yX3_insertPoint.cls ∈ xw := xw_t1 6 rfl rfl
theorem imLn_insertPoint : Cond.instanceMethod yX3_insertPoint ∈ xw := xw_t2 139 rfl rfl
theorem slLn_insertPoint : Cond.selects RX3 yX3_insertPoint yX3_insertPoint ∈ xw := xw_t2 140 rfl rfl
theorem pmLn_insertPoint : yX3_insertPoint.cls ≠ "java/lang/invoke/MethodHandle" ∧ yX3_insertPoint.cls ≠ "java/lang/invoke/VarHandle" ∧ (parseMethodDescriptor yX3_insertPoint.desc).map (fun d => d.parameters.length + 1) = some 4 := by decide +kernel
theorem cdLn_signOf : Cond.code yX3_signOf cX3_signOf 1 (some .int) ∈ xw := xw_t2 157 rfl rfl
theorem inLn_signOf : Cond.initialized yX3_signOf.cls ∈ xw := xw_t1 6 rfl rfl
theorem imLn_signOf : Cond.static yX3_signOf ∈ xw := xw_t2 156 rfl rfl
theorem pmLn_signOf : yX3_signOf.cls ≠ "java/lang/invoke/MethodHandle" ∧ yX3_signOf.cls ≠ "java/lang/invoke/VarHandle" ∧ (parseMethodDescriptor yX3_signOf.desc).map (fun d => d.parameters.length) = some 1 := by decide +kernel
theorem cdLn_wayOfRun : Cond.code yX3_wayOfRun cX3_wayOfRun 4 (some .int) ∈ xw := xw_t2 149 rfl rfl
theorem inLn_wayOfRun : Cond.initialized yX3_wayOfRun.cls ∈ xw := xw_t1 6 rfl rfl
theorem imLn_wayOfRun : Cond.instanceMethod yX3_wayOfRun ∈ xw := xw_t2 147 rfl rfl
theorem slLn_wayOfRun : Cond.selects RX3 yX3_wayOfRun yX3_wayOfRun ∈ xw := xw_t2 148 rfl rfl
theorem pmLn_wayOfRun : yX3_wayOfRun.cls ≠ "java/lang/invoke/MethodHandle" ∧ yX3_wayOfRun.cls ≠ "java/lang/invoke/VarHandle" ∧ (parseMethodDescriptor yX3_wayOfRun.desc).map (fun d => d.parameters.length + 1) = some 2 := by decide +kernel
theorem lkLn_46 : Cond.methodLink RX3 46 yX3_signOf ∈ xw ∨ ∃ host, Cond.methodLinkNest RX3 46 yX3_signOf host ∈ xnw := Or.inl (xw_t2 155 rfl rfl)
theorem cdLn_turnAt : Cond.code yX3_turnAt cX3_turnAt 3 (some .int) ∈ xw := xw_t2 161 rfl rfl
theorem inLn_turnAt : Cond.initialized yX3_turnAt.cls ∈ xw := xw_t1 6 rfl rfl
theorem imLn_turnAt : Cond.instanceMethod yX3_turnAt ∈ xw := xw_t2 159 rfl rfl
theorem slLn_turnAt : Cond.selects RX3 yX3_turnAt yX3_turnAt ∈ xw := xw_t2 160 rfl rfl
theorem pmLn_turnAt : yX3_turnAt.cls ≠ "java/lang/invoke/MethodHandle" ∧ yX3_turnAt.cls ≠ "java/lang/invoke/VarHandle" ∧ (parseMethodDescriptor yX3_turnAt.desc).map (fun d => d.parameters.length + 1) = some 2 := by decide +kernel
theorem lkLn_56 : Cond.methodLink RX3 56 yX3_wayOfRun ∈ xw := xw_t2 146 rfl rfl
theorem cdLn_isCrooked : Cond.code yX3_isCrooked cX3_isCrooked 3 (some .boolean) ∈ xw := xw_t2 145 rfl rfl
theorem inLn_isCrooked : Cond.initialized yX3_isCrooked.cls ∈ xw := xw_t1 6 rfl rfl
theorem imLn_isCrooked : Cond.instanceMethod yX3_isCrooked ∈ xw := xw_t2 143 rfl rfl
theorem slLn_isCrooked : Cond.selects RX3 yX3_isCrooked yX3_isCrooked ∈ xw := xw_t2 144 rfl rfl
theorem pmLn_isCrooked : yX3_isCrooked.cls ≠ "java/lang/invoke/MethodHandle" ∧ yX3_isCrooked.cls ≠ "java/lang/invoke/VarHandle" ∧ (parseMethodDescriptor yX3_isCrooked.desc).map (fun d => d.parameters.length + 1) = some 2 := by decide +kernel
theorem lkLn_62 : Cond.methodLink RX3 62 yX3_turnAt ∈ xw := xw_t2 158 rfl rfl
theorem cdLn_stepsOfRun : Cond.code yX3_stepsOfRun cX3_stepsOfRun 2 (some .int) ∈ xw := xw_t2 176 rfl rfl
theorem inLn_stepsOfRun : Cond.initialized yX3_stepsOfRun.cls ∈ xw := xw_t1 6 rfl rfl
theorem imLn_stepsOfRun : Cond.instanceMethod yX3_stepsOfRun ∈ xw := xw_t2 174 rfl rfl
theorem slLn_stepsOfRun : Cond.selects RX3 yX3_stepsOfRun yX3_stepsOfRun ∈ xw := xw_t2 175 rfl rfl
theorem pmLn_stepsOfRun : yX3_stepsOfRun.cls ≠ "java/lang/invoke/MethodHandle" ∧ yX3_stepsOfRun.cls ≠ "java/lang/invoke/VarHandle" ∧ (parseMethodDescriptor yX3_stepsOfRun.desc).map (fun d => d.parameters.length + 1) = some 2 := by decide +kernel
theorem cdLn_steps : Cond.code yX3_steps cX3_steps 3 (some .int) ∈ xw := xw_t2 172 rfl rfl
theorem inLn_steps : Cond.initialized yX3_steps.cls ∈ xw := xw_t1 6 rfl rfl
theorem imLn_steps : Cond.instanceMethod yX3_steps ∈ xw := xw_t2 170 rfl rfl
theorem slLn_steps : Cond.selects RX3 yX3_steps yX3_steps ∈ xw := xw_t2 171 rfl rfl
theorem pmLn_steps : yX3_steps.cls ≠ "java/lang/invoke/MethodHandle" ∧ yX3_steps.cls ≠ "java/lang/invoke/VarHandle" ∧ (parseMethodDescriptor yX3_steps.desc).map (fun d => d.parameters.length + 1) = some 1 := by decide +kernel
theorem lkLn_53 : Cond.methodLink RX3 53 yX3_stepsOfRun ∈ xw := xw_t2 173 rfl rfl
theorem cdLn_isShort : Cond.code yX3_isShort cX3_isShort 1 (some .boolean) ∈ xw := xw_t2 168 rfl rfl
theorem inLn_isShort : Cond.initialized yX3_isShort.cls ∈ xw := xw_t1 6 rfl rfl
theorem imLn_isShort : Cond.instanceMethod yX3_isShort ∈ xw := xw_t2 166 rfl rfl
theorem slLn_isShort : Cond.selects RX3 yX3_isShort yX3_isShort ∈ xw := xw_t2 167 rfl rfl
theorem pmLn_isShort : yX3_isShort.cls ≠ "java/lang/invoke/MethodHandle" ∧ yX3_isShort.cls ≠ "java/lang/invoke/VarHandle" ∧ (parseMethodDescriptor yX3_isShort.desc).map (fun d => d.parameters.length + 1) = some 1 := by decide +kernel
theorem lkLn_65 : Cond.methodLink RX3 65 yX3_steps ∈ xw := xw_t2 169 rfl rfl
theorem cdPs_readPoints : Cond.code yX4_readPoints cX4_readPoints 5 (some .boolean) ∈ xw := xw_t2 137 rfl rfl
theorem inPs_readPoints : Cond.initialized yX4_readPoints.cls ∈ xw := xw_t1 3 rfl rfl
theorem imPs_readPoints : Cond.instanceMethod yX4_readPoints ∈ xw := xw_t2 136 rfl rfl
theorem slPs_readPoints : Cond.selects RX4 yX4_readPoints yX4_readPoints ∈ xw := xw_p1 8 5 rfl rfl
theorem pmPs_readPoints : yX4_readPoints.cls ≠ "java/lang/invoke/MethodHandle" ∧ yX4_readPoints.cls ≠ "java/lang/invoke/VarHandle" ∧ (parseMethodDescriptor yX4_readPoints.desc).map (fun d => d.parameters.length + 1) = some 4 := by decide +kernel
theorem lkPs_91 : Cond.methodLink RX4 91 yX3_insertPoint ∈ xw := xw_t2 138 rfl rfl
theorem lkPs_97 : Cond.methodLink RX4 97 yX3_isCrooked ∈ xw := xw_t2 142 rfl rfl
theorem lkPs_101 : Cond.methodLink RX4 101 yX3_isShort ∈ xw := xw_t2 165 rfl rfl
theorem cdPs_parse : Cond.code yX4_parse cX4_parse 4 (some .int) ∈ xw := xw_t2 77 rfl rfl
theorem inPs_parse : Cond.initialized yX4_parse.cls ∈ xw := xw_t1 3 rfl rfl
theorem imPs_parse : Cond.instanceMethod yX4_parse ∈ xw := xw_t2 75 rfl rfl
theorem slPs_parse : Cond.selects RX4 yX4_parse yX4_parse ∈ xw := xw_t2 76 rfl rfl
theorem pmPs_parse : yX4_parse.cls ≠ "java/lang/invoke/MethodHandle" ∧ yX4_parse.cls ≠ "java/lang/invoke/VarHandle" ∧ (parseMethodDescriptor yX4_parse.desc).map (fun d => d.parameters.length + 1) = some 3 := by decide +kernel
theorem lkPs_19 : Cond.methodLink RX4 19 yX4_readBoard ∈ xw := xw_t2 109 rfl rfl
theorem lkPs_35 : Cond.methodLink RX4 35 yX4_readHead ∈ xw := xw_t2 126 rfl rfl
theorem lkPs_39 : Cond.methodLink RX4 39 yX4_readPoints ∈ xw := xw_t2 134 rfl rfl
theorem cdLn_copyFrom : Cond.code yX3_copyFrom cX3_copyFrom 2 none ∈ xw := xw_t2 187 rfl rfl
theorem inLn_copyFrom : Cond.initialized yX3_copyFrom.cls ∈ xw := xw_t1 6 rfl rfl
theorem imLn_copyFrom : Cond.instanceMethod yX3_copyFrom ∈ xw := xw_t2 185 rfl rfl
theorem slLn_copyFrom : Cond.selects RX3 yX3_copyFrom yX3_copyFrom ∈ xw := xw_t2 186 rfl rfl
theorem pmLn_copyFrom : yX3_copyFrom.cls ≠ "java/lang/invoke/MethodHandle" ∧ yX3_copyFrom.cls ≠ "java/lang/invoke/VarHandle" ∧ (parseMethodDescriptor yX3_copyFrom.desc).map (fun d => d.parameters.length + 1) = some 2 := by decide +kernel
theorem cdLb_copyFrom : Cond.code yX2_copyFrom cX2_copyFrom 2 none ∈ xw := xw_t2 194 rfl rfl
theorem inLb_copyFrom : Cond.initialized yX2_copyFrom.cls ∈ xw := xw_t1 5 rfl rfl
theorem imLb_copyFrom : Cond.instanceMethod yX2_copyFrom ∈ xw := xw_t2 192 rfl rfl
theorem slLb_copyFrom : Cond.selects RX2 yX2_copyFrom yX2_copyFrom ∈ xw := xw_t2 193 rfl rfl
theorem pmLb_copyFrom : yX2_copyFrom.cls ≠ "java/lang/invoke/MethodHandle" ∧ yX2_copyFrom.cls ≠ "java/lang/invoke/VarHandle" ∧ (parseMethodDescriptor yX2_copyFrom.desc).map (fun d => d.parameters.length + 1) = some 2 := by decide +kernel
theorem cdP_copyFrom : Cond.code yX5_copyFrom cX5_copyFrom 3 none ∈ xw := xw_t2 183 rfl rfl
theorem inP_copyFrom : Cond.initialized yX5_copyFrom.cls ∈ xw := xw_t1 4 rfl rfl
theorem imP_copyFrom : Cond.instanceMethod yX5_copyFrom ∈ xw := xw_t2 181 rfl rfl
theorem slP_copyFrom : Cond.selects RX5 yX5_copyFrom yX5_copyFrom ∈ xw := xw_t2 182 rfl rfl
theorem pmP_copyFrom : yX5_copyFrom.cls ≠ "java/lang/invoke/MethodHandle" ∧ yX5_copyFrom.cls ≠ "java/lang/invoke/VarHandle" ∧ (parseMethodDescriptor yX5_copyFrom.desc).map (fun d => d.parameters.length + 1) = some 2 := by decide +kernel
theorem lkP_41 : Cond.methodLink RX5 41 yX3_copyFrom ∈ xw := xw_t2 184 rfl rfl
theorem lkP_45 : Cond.methodLink RX5 45 yX2_copyFrom ∈ xw := xw_t2 191 rfl rfl
theorem cdJA_fill : Cond.code yJ7_fill_53178 cJ7_fill_53178 4 none ∈ xw := xw_t2 16 rfl rfl
theorem inJA_fill : Cond.initialized yJ7_fill_53178.cls ∈ xw := xw_t1 10 rfl rfl
theorem imJA_fill : Cond.static yJ7_fill_53178 ∈ xw := xw_t2 15 rfl rfl
theorem pmJA_fill : yJ7_fill_53178.cls ≠ "java/lang/invoke/MethodHandle" ∧ yJ7_fill_53178.cls ≠ "java/lang/invoke/VarHandle" ∧ (parseMethodDescriptor yJ7_fill_53178.desc).map (fun d => d.parameters.length) = some 2 := by decide +kernel
theorem cdB_begin : Cond.code yX0_begin cX0_begin 3 none ∈ xw := xw_t2 13 rfl rfl
theorem inB_begin : Cond.initialized yX0_begin.cls ∈ xw := xw_t1 8 rfl rfl
theorem imB_begin : Cond.instanceMethod yX0_begin ∈ xw := xw_t2 11 rfl rfl
theorem slB_begin : Cond.selects RX0 yX0_begin yX0_begin ∈ xw := xw_t2 12 rfl rfl
theorem pmB_begin : yX0_begin.cls ≠ "java/lang/invoke/MethodHandle" ∧ yX0_begin.cls ≠ "java/lang/invoke/VarHandle" ∧ (parseMethodDescriptor yX0_begin.desc).map (fun d => d.parameters.length + 1) = some 3 := by decide +kernel
theorem lkB_40 : Cond.methodLink RX0 40 yJ7_fill_53178 ∈ xw ∨ ∃ host, Cond.methodLinkNest RX0 40 yJ7_fill_53178 host ∈ xnw := Or.inl (xw_t2 14 rfl rfl)
theorem cdD_cellAt : Cond.code yX8_cellAt cX8_cellAt 2 (some .int) ∈ xw := xw_t2 208 rfl rfl
theorem inD_cellAt : Cond.initialized yX8_cellAt.cls ∈ xw := xw_t1 1 rfl rfl
theorem imD_cellAt : Cond.static yX8_cellAt ∈ xw := xw_t2 207 rfl rfl
theorem pmD_cellAt : yX8_cellAt.cls ≠ "java/lang/invoke/MethodHandle" ∧ yX8_cellAt.cls ≠ "java/lang/invoke/VarHandle" ∧ (parseMethodDescriptor yX8_cellAt.desc).map (fun d => d.parameters.length) = some 2 := by decide +kernel
theorem cdLn_longOf : Cond.code yX3_longOf cX3_longOf 2 (some .int) ∈ xw := xw_t2 216 rfl rfl
theorem inLn_longOf : Cond.initialized yX3_longOf.cls ∈ xw := xw_t1 6 rfl rfl
theorem imLn_longOf : Cond.instanceMethod yX3_longOf ∈ xw := xw_t2 214 rfl rfl
theorem slLn_longOf : Cond.selects RX3 yX3_longOf yX3_longOf ∈ xw := xw_t2 215 rfl rfl
theorem pmLn_longOf : yX3_longOf.cls ≠ "java/lang/invoke/MethodHandle" ∧ yX3_longOf.cls ≠ "java/lang/invoke/VarHandle" ∧ (parseMethodDescriptor yX3_longOf.desc).map (fun d => d.parameters.length + 1) = some 2 := by decide +kernel
theorem cdB_drawStation : Cond.code yX0_drawStation cX0_drawStation 5 none ∈ xw := xw_t2 212 rfl rfl
theorem inB_drawStation : Cond.initialized yX0_drawStation.cls ∈ xw := xw_t1 8 rfl rfl
theorem imB_drawStation : Cond.instanceMethod yX0_drawStation ∈ xw := xw_t2 211 rfl rfl
theorem slB_drawStation : Cond.selects RX0 yX0_drawStation yX0_drawStation ∈ xw := xw_p1 10 9 rfl rfl
theorem pmB_drawStation : yX0_drawStation.cls ≠ "java/lang/invoke/MethodHandle" ∧ yX0_drawStation.cls ≠ "java/lang/invoke/VarHandle" ∧ (parseMethodDescriptor yX0_drawStation.desc).map (fun d => d.parameters.length + 1) = some 5 := by decide +kernel
theorem lkB_109 : Cond.methodLink RX0 109 yX3_longOf ∈ xw := xw_t2 213 rfl rfl
theorem cdB_drawStep : Cond.code yX0_drawStep cX0_drawStep 6 (some .int) ∈ xw := xw_t2 223 rfl rfl
theorem inB_drawStep : Cond.initialized yX0_drawStep.cls ∈ xw := xw_t1 8 rfl rfl
theorem imB_drawStep : Cond.instanceMethod yX0_drawStep ∈ xw := xw_t2 222 rfl rfl
theorem slB_drawStep : Cond.selects RX0 yX0_drawStep yX0_drawStep ∈ xw := xw_p1 11 9 rfl rfl
theorem pmB_drawStep : yX0_drawStep.cls ≠ "java/lang/invoke/MethodHandle" ∧ yX0_drawStep.cls ≠ "java/lang/invoke/VarHandle" ∧ (parseMethodDescriptor yX0_drawStep.desc).map (fun d => d.parameters.length + 1) = some 4 := by decide +kernel
theorem lkB_75 : Cond.methodLink RX0 75 yX8_cellAt ∈ xw ∨ ∃ host, Cond.methodLinkNest RX0 75 yX8_cellAt host ∈ xnw := Or.inr ⟨"LineDiagram", List.mem_of_getElem? (i := 9) rfl⟩
theorem cdLn_stepOfStation : Cond.code yX3_stepOfStation cX3_stepOfStation 4 (some .int) ∈ xw := xw_t2 231 rfl rfl
theorem inLn_stepOfStation : Cond.initialized yX3_stepOfStation.cls ∈ xw := xw_t1 6 rfl rfl
theorem imLn_stepOfStation : Cond.instanceMethod yX3_stepOfStation ∈ xw := xw_t2 229 rfl rfl
theorem slLn_stepOfStation : Cond.selects RX3 yX3_stepOfStation yX3_stepOfStation ∈ xw := xw_t2 230 rfl rfl
theorem pmLn_stepOfStation : yX3_stepOfStation.cls ≠ "java/lang/invoke/MethodHandle" ∧ yX3_stepOfStation.cls ≠ "java/lang/invoke/VarHandle" ∧ (parseMethodDescriptor yX3_stepOfStation.desc).map (fun d => d.parameters.length + 1) = some 3 := by decide +kernel
theorem cdB_drawLine : Cond.code yX0_drawLine cX0_drawLine 10 none ∈ xw := xw_t2 205 rfl rfl
theorem inB_drawLine : Cond.initialized yX0_drawLine.cls ∈ xw := xw_t1 8 rfl rfl
theorem imB_drawLine : Cond.instanceMethod yX0_drawLine ∈ xw := xw_t2 204 rfl rfl
theorem slB_drawLine : Cond.selects RX0 yX0_drawLine yX0_drawLine ∈ xw := xw_p1 9 9 rfl rfl
theorem pmB_drawLine : yX0_drawLine.cls ≠ "java/lang/invoke/MethodHandle" ∧ yX0_drawLine.cls ≠ "java/lang/invoke/VarHandle" ∧ (parseMethodDescriptor yX0_drawLine.desc).map (fun d => d.parameters.length + 1) = some 4 := by decide +kernel
theorem lkB_79 : Cond.methodLink RX0 79 yX0_drawStation ∈ xw := xw_t2 209 rfl rfl
theorem lkB_86 : Cond.methodLink RX0 86 yX3_wayOfRun ∈ xw := xw_t2 218 rfl rfl
theorem lkB_90 : Cond.methodLink RX0 90 yX3_stepsOfRun ∈ xw := xw_t2 219 rfl rfl
theorem lkB_93 : Cond.methodLink RX0 93 yX0_drawStep ∈ xw := xw_t2 220 rfl rfl
theorem lkB_100 : Cond.methodLink RX0 100 yX3_stepOfStation ∈ xw := xw_t2 228 rfl rfl
theorem cdB_drawLines : Cond.code yX0_drawLines cX0_drawLines 3 none ∈ xw := xw_t2 199 rfl rfl
theorem inB_drawLines : Cond.initialized yX0_drawLines.cls ∈ xw := xw_t1 8 rfl rfl
theorem imB_drawLines : Cond.instanceMethod yX0_drawLines ∈ xw := xw_t2 197 rfl rfl
theorem slB_drawLines : Cond.selects RX0 yX0_drawLines yX0_drawLines ∈ xw := xw_t2 198 rfl rfl
theorem pmB_drawLines : yX0_drawLines.cls ≠ "java/lang/invoke/MethodHandle" ∧ yX0_drawLines.cls ≠ "java/lang/invoke/VarHandle" ∧ (parseMethodDescriptor yX0_drawLines.desc).map (fun d => d.parameters.length + 1) = some 2 := by decide +kernel
theorem lkB_50 : Cond.methodLink RX0 50 yX0_begin ∈ xw := xw_t2 200 rfl rfl
theorem lkB_60 : Cond.methodLink RX0 60 yX3_steps ∈ xw := xw_t2 201 rfl rfl
theorem lkB_65 : Cond.methodLink RX0 65 yX0_drawLine ∈ xw := xw_t2 202 rfl rfl
theorem cdH_forget : Cond.code yX1_forget cX1_forget 1 none ∈ xw := xw_t2 235 rfl rfl
theorem inH_forget : Cond.initialized yX1_forget.cls ∈ xw := xw_t1 7 rfl rfl
theorem imH_forget : Cond.instanceMethod yX1_forget ∈ xw := xw_t2 233 rfl rfl
theorem slH_forget : Cond.selects RX1 yX1_forget yX1_forget ∈ xw := xw_t2 234 rfl rfl
theorem pmH_forget : yX1_forget.cls ≠ "java/lang/invoke/MethodHandle" ∧ yX1_forget.cls ≠ "java/lang/invoke/VarHandle" ∧ (parseMethodDescriptor yX1_forget.desc).map (fun d => d.parameters.length + 1) = some 1 := by decide +kernel
theorem cdD_load : Cond.code yX8_load cX8_load 2 (some .int) ∈ xw := xw_t2 73 rfl rfl
theorem inD_load : Cond.initialized yX8_load.cls ∈ xw := xw_t1 1 rfl rfl
theorem imD_load : Cond.instanceMethod yX8_load ∈ xw := xw_t2 71 rfl rfl
theorem slD_load : Cond.selects RX8 yX8_load yX8_load ∈ xw := xw_t2 72 rfl rfl
theorem pmD_load : yX8_load.cls ≠ "java/lang/invoke/MethodHandle" ∧ yX8_load.cls ≠ "java/lang/invoke/VarHandle" ∧ (parseMethodDescriptor yX8_load.desc).map (fun d => d.parameters.length + 1) = some 1 := by decide +kernel
theorem lkD_90 : Cond.methodLink RX8 90 yX4_parse ∈ xw := xw_t2 74 rfl rfl
theorem lkD_94 : Cond.methodLink RX8 94 yX5_copyFrom ∈ xw := xw_t2 180 rfl rfl
theorem lkD_98 : Cond.methodLink RX8 98 yX0_drawLines ∈ xw := xw_t2 196 rfl rfl
theorem lkD_101 : Cond.methodLink RX8 101 yX1_forget ∈ xw := xw_t2 232 rfl rfl
theorem cdM_empties : Cond.code yX9_empties cX9_empties 2 none ∈ xw := xw_t5 84 rfl rfl
theorem inM_empties : Cond.initialized yX9_empties.cls ∈ xw := xw_t1 11 rfl rfl
theorem imM_empties : Cond.instanceMethod yX9_empties ∈ xw := xw_t5 83 rfl rfl
theorem slM_empties : Cond.selects RX9 yX9_empties yX9_empties ∈ xw := xw_p3 3 44 rfl rfl
theorem pmM_empties : yX9_empties.cls ≠ "java/lang/invoke/MethodHandle" ∧ yX9_empties.cls ≠ "java/lang/invoke/VarHandle" ∧ (parseMethodDescriptor yX9_empties.desc).map (fun d => d.parameters.length + 1) = some 1 := by decide +kernel
theorem cdM_isByte : Cond.code yX9_isByte cX9_isByte 3 (some .boolean) ∈ xw := xw_t6 8 rfl rfl
theorem inM_isByte : Cond.initialized yX9_isByte.cls ∈ xw := xw_t1 11 rfl rfl
theorem imM_isByte : Cond.instanceMethod yX9_isByte ∈ xw := xw_t6 7 rfl rfl
theorem slM_isByte : Cond.selects RX9 yX9_isByte yX9_isByte ∈ xw := xw_p3 7 44 rfl rfl
theorem pmM_isByte : yX9_isByte.cls ≠ "java/lang/invoke/MethodHandle" ∧ yX9_isByte.cls ≠ "java/lang/invoke/VarHandle" ∧ (parseMethodDescriptor yX9_isByte.desc).map (fun d => d.parameters.length + 1) = some 3 := by decide +kernel
theorem cdM_isKey : Cond.code yX9_isKey cX9_isKey 2 (some .boolean) ∈ xw := xw_t6 16 rfl rfl
theorem inM_isKey : Cond.initialized yX9_isKey.cls ∈ xw := xw_t1 11 rfl rfl
theorem imM_isKey : Cond.static yX9_isKey ∈ xw := xw_t6 15 rfl rfl
theorem pmM_isKey : yX9_isKey.cls ≠ "java/lang/invoke/MethodHandle" ∧ yX9_isKey.cls ≠ "java/lang/invoke/VarHandle" ∧ (parseMethodDescriptor yX9_isKey.desc).map (fun d => d.parameters.length) = some 1 := by decide +kernel
theorem cdM_takesLetters : Cond.code yX9_takesLetters cX9_takesLetters 3 none ∈ xw := xw_t6 12 rfl rfl
theorem inM_takesLetters : Cond.initialized yX9_takesLetters.cls ∈ xw := xw_t1 11 rfl rfl
theorem imM_takesLetters : Cond.instanceMethod yX9_takesLetters ∈ xw := xw_t6 11 rfl rfl
theorem slM_takesLetters : Cond.selects RX9 yX9_takesLetters yX9_takesLetters ∈ xw := xw_p3 8 44 rfl rfl
theorem pmM_takesLetters : yX9_takesLetters.cls ≠ "java/lang/invoke/MethodHandle" ∧ yX9_takesLetters.cls ≠ "java/lang/invoke/VarHandle" ∧ (parseMethodDescriptor yX9_takesLetters.desc).map (fun d => d.parameters.length + 1) = some 1 := by decide +kernel
theorem lkM_233 : Cond.methodLink RX9 233 yX9_isByte ∈ xw := xw_t6 5 rfl rfl
theorem lkM_241 : Cond.methodLink RX9 241 yX9_isKey ∈ xw ∨ ∃ host, Cond.methodLinkNest RX9 241 yX9_isKey host ∈ xnw := Or.inl (xw_t6 14 rfl rfl)
theorem cdM_takesDigits : Cond.code yX9_takesDigits cX9_takesDigits 1 none ∈ xw := xw_t6 26 rfl rfl
theorem inM_takesDigits : Cond.initialized yX9_takesDigits.cls ∈ xw := xw_t1 11 rfl rfl
theorem imM_takesDigits : Cond.instanceMethod yX9_takesDigits ∈ xw := xw_t6 25 rfl rfl
theorem slM_takesDigits : Cond.selects RX9 yX9_takesDigits yX9_takesDigits ∈ xw := xw_p3 9 44 rfl rfl
theorem pmM_takesDigits : yX9_takesDigits.cls ≠ "java/lang/invoke/MethodHandle" ∧ yX9_takesDigits.cls ≠ "java/lang/invoke/VarHandle" ∧ (parseMethodDescriptor yX9_takesDigits.desc).map (fun d => d.parameters.length + 1) = some 1 := by decide +kernel
theorem cdM_goesOn : Cond.code yX9_goesOn cX9_goesOn 1 none ∈ xw := xw_t6 4 rfl rfl
theorem inM_goesOn : Cond.initialized yX9_goesOn.cls ∈ xw := xw_t1 11 rfl rfl
theorem imM_goesOn : Cond.instanceMethod yX9_goesOn ∈ xw := xw_t6 3 rfl rfl
theorem slM_goesOn : Cond.selects RX9 yX9_goesOn yX9_goesOn ∈ xw := xw_p3 6 44 rfl rfl
theorem pmM_goesOn : yX9_goesOn.cls ≠ "java/lang/invoke/MethodHandle" ∧ yX9_goesOn.cls ≠ "java/lang/invoke/VarHandle" ∧ (parseMethodDescriptor yX9_goesOn.desc).map (fun d => d.parameters.length + 1) = some 1 := by decide +kernel
theorem lkM_251 : Cond.methodLink RX9 251 yX9_takesLetters ∈ xw := xw_t6 9 rfl rfl
theorem lkM_254 : Cond.methodLink RX9 254 yX9_takesDigits ∈ xw := xw_t6 23 rfl rfl
theorem cdM_takes : Cond.code yX9_takes cX9_takes 2 none ∈ xw := xw_t6 38 rfl rfl
theorem inM_takes : Cond.initialized yX9_takes.cls ∈ xw := xw_t1 11 rfl rfl
theorem imM_takes : Cond.instanceMethod yX9_takes ∈ xw := xw_t6 37 rfl rfl
theorem slM_takes : Cond.selects RX9 yX9_takes yX9_takes ∈ xw := xw_p3 12 44 rfl rfl
theorem pmM_takes : yX9_takes.cls ≠ "java/lang/invoke/MethodHandle" ∧ yX9_takes.cls ≠ "java/lang/invoke/VarHandle" ∧ (parseMethodDescriptor yX9_takes.desc).map (fun d => d.parameters.length + 1) = some 2 := by decide +kernel
theorem lkM_261 : Cond.methodLink RX9 261 yX9_goesOn ∈ xw := xw_t6 1 rfl rfl
theorem cdM_isInt : Cond.code yX9_isInt cX9_isInt 3 (some .boolean) ∈ xw := xw_t6 46 rfl rfl
theorem inM_isInt : Cond.initialized yX9_isInt.cls ∈ xw := xw_t1 11 rfl rfl
theorem imM_isInt : Cond.instanceMethod yX9_isInt ∈ xw := xw_t6 45 rfl rfl
theorem slM_isInt : Cond.selects RX9 yX9_isInt yX9_isInt ∈ xw := xw_p3 14 44 rfl rfl
theorem pmM_isInt : yX9_isInt.cls ≠ "java/lang/invoke/MethodHandle" ∧ yX9_isInt.cls ≠ "java/lang/invoke/VarHandle" ∧ (parseMethodDescriptor yX9_isInt.desc).map (fun d => d.parameters.length + 1) = some 3 := by decide +kernel
theorem cdM_numberIn : Cond.code yX9_numberIn cX9_numberIn 4 (some .int) ∈ xw := xw_t6 42 rfl rfl
theorem inM_numberIn : Cond.initialized yX9_numberIn.cls ∈ xw := xw_t1 11 rfl rfl
theorem imM_numberIn : Cond.instanceMethod yX9_numberIn ∈ xw := xw_t6 41 rfl rfl
theorem slM_numberIn : Cond.selects RX9 yX9_numberIn yX9_numberIn ∈ xw := xw_p3 13 44 rfl rfl
theorem pmM_numberIn : yX9_numberIn.cls ≠ "java/lang/invoke/MethodHandle" ∧ yX9_numberIn.cls ≠ "java/lang/invoke/VarHandle" ∧ (parseMethodDescriptor yX9_numberIn.desc).map (fun d => d.parameters.length + 1) = some 3 := by decide +kernel
theorem lkM_264 : Cond.methodLink RX9 264 yX9_isInt ∈ xw := xw_t6 43 rfl rfl
theorem lkM_267 : Cond.methodLink RX9 267 yX9_takes ∈ xw := xw_t6 35 rfl rfl
theorem cdM_isHere : Cond.code yX9_isHere cX9_isHere 3 (some .boolean) ∈ xw := xw_t6 34 rfl rfl
theorem inM_isHere : Cond.initialized yX9_isHere.cls ∈ xw := xw_t1 11 rfl rfl
theorem imM_isHere : Cond.instanceMethod yX9_isHere ∈ xw := xw_t6 33 rfl rfl
theorem slM_isHere : Cond.selects RX9 yX9_isHere yX9_isHere ∈ xw := xw_p3 11 44 rfl rfl
theorem pmM_isHere : yX9_isHere.cls ≠ "java/lang/invoke/MethodHandle" ∧ yX9_isHere.cls ≠ "java/lang/invoke/VarHandle" ∧ (parseMethodDescriptor yX9_isHere.desc).map (fun d => d.parameters.length + 1) = some 2 := by decide +kernel
theorem cdM_numberOf : Cond.code yX9_numberOf cX9_numberOf 5 (some .int) ∈ xw := xw_t6 30 rfl rfl
theorem inM_numberOf : Cond.initialized yX9_numberOf.cls ∈ xw := xw_t1 11 rfl rfl
theorem imM_numberOf : Cond.instanceMethod yX9_numberOf ∈ xw := xw_t6 29 rfl rfl
theorem slM_numberOf : Cond.selects RX9 yX9_numberOf yX9_numberOf ∈ xw := xw_p3 10 44 rfl rfl
theorem pmM_numberOf : yX9_numberOf.cls ≠ "java/lang/invoke/MethodHandle" ∧ yX9_numberOf.cls ≠ "java/lang/invoke/VarHandle" ∧ (parseMethodDescriptor yX9_numberOf.desc).map (fun d => d.parameters.length + 1) = some 4 := by decide +kernel
theorem lkM_271 : Cond.methodLink RX9 271 yX9_isHere ∈ xw := xw_t6 31 rfl rfl
theorem lkM_274 : Cond.methodLink RX9 274 yX9_numberIn ∈ xw := xw_t6 39 rfl rfl
theorem cdM_newAt : Cond.code yX9_newAt cX9_newAt 2 (some .int) ∈ xw := xw_t6 70 rfl rfl
theorem inM_newAt : Cond.initialized yX9_newAt.cls ∈ xw := xw_t1 11 rfl rfl
theorem imM_newAt : Cond.instanceMethod yX9_newAt ∈ xw := xw_t6 69 rfl rfl
theorem slM_newAt : Cond.selects RX9 yX9_newAt yX9_newAt ∈ xw := xw_p4 4 44 rfl rfl
theorem pmM_newAt : yX9_newAt.cls ≠ "java/lang/invoke/MethodHandle" ∧ yX9_newAt.cls ≠ "java/lang/invoke/VarHandle" ∧ (parseMethodDescriptor yX9_newAt.desc).map (fun d => d.parameters.length + 1) = some 2 := by decide +kernel
theorem cdM_isNewName : Cond.code yX9_isNewName cX9_isNewName 3 (some .boolean) ∈ xw := xw_t6 54 rfl rfl
theorem inM_isNewName : Cond.initialized yX9_isNewName.cls ∈ xw := xw_t1 11 rfl rfl
theorem imM_isNewName : Cond.instanceMethod yX9_isNewName ∈ xw := xw_t6 53 rfl rfl
theorem slM_isNewName : Cond.selects RX9 yX9_isNewName yX9_isNewName ∈ xw := xw_p4 0 44 rfl rfl
theorem pmM_isNewName : yX9_isNewName.cls ≠ "java/lang/invoke/MethodHandle" ∧ yX9_isNewName.cls ≠ "java/lang/invoke/VarHandle" ∧ (parseMethodDescriptor yX9_isNewName.desc).map (fun d => d.parameters.length + 1) = some 1 := by decide +kernel
theorem cdM_size : Cond.code yX9_size cX9_size 1 (some .int) ∈ xw := xw_t6 80 rfl rfl
theorem inM_size : Cond.initialized yX9_size.cls ∈ xw := xw_t1 11 rfl rfl
theorem imM_size : Cond.static yX9_size ∈ xw := xw_t6 79 rfl rfl
theorem pmM_size : yX9_size.cls ≠ "java/lang/invoke/MethodHandle" ∧ yX9_size.cls ≠ "java/lang/invoke/VarHandle" ∧ (parseMethodDescriptor yX9_size.desc).map (fun d => d.parameters.length) = some 1 := by decide +kernel
theorem cdM_newX : Cond.code yX9_newX cX9_newX 2 (some .int) ∈ xw := xw_t6 66 rfl rfl
theorem inM_newX : Cond.initialized yX9_newX.cls ∈ xw := xw_t1 11 rfl rfl
theorem imM_newX : Cond.instanceMethod yX9_newX ∈ xw := xw_t6 65 rfl rfl
theorem slM_newX : Cond.selects RX9 yX9_newX yX9_newX ∈ xw := xw_p4 3 44 rfl rfl
theorem pmM_newX : yX9_newX.cls ≠ "java/lang/invoke/MethodHandle" ∧ yX9_newX.cls ≠ "java/lang/invoke/VarHandle" ∧ (parseMethodDescriptor yX9_newX.desc).map (fun d => d.parameters.length + 1) = some 2 := by decide +kernel
theorem lkM_280 : Cond.methodLink RX9 280 yX9_newAt ∈ xw := xw_t6 67 rfl rfl
theorem cdM_newY : Cond.code yX9_newY cX9_newY 2 (some .int) ∈ xw := xw_t6 74 rfl rfl
theorem inM_newY : Cond.initialized yX9_newY.cls ∈ xw := xw_t1 11 rfl rfl
theorem imM_newY : Cond.instanceMethod yX9_newY ∈ xw := xw_t6 73 rfl rfl
theorem slM_newY : Cond.selects RX9 yX9_newY yX9_newY ∈ xw := xw_p4 5 44 rfl rfl
theorem pmM_newY : yX9_newY.cls ≠ "java/lang/invoke/MethodHandle" ∧ yX9_newY.cls ≠ "java/lang/invoke/VarHandle" ∧ (parseMethodDescriptor yX9_newY.desc).map (fun d => d.parameters.length + 1) = some 2 := by decide +kernel
theorem cdM_dx : Cond.code yX9_dx cX9_dx 1 (some .int) ∈ xw := xw_t6 83 rfl rfl
theorem inM_dx : Cond.initialized yX9_dx.cls ∈ xw := xw_t1 11 rfl rfl
theorem imM_dx : Cond.static yX9_dx ∈ xw := xw_t6 82 rfl rfl
theorem pmM_dx : yX9_dx.cls ≠ "java/lang/invoke/MethodHandle" ∧ yX9_dx.cls ≠ "java/lang/invoke/VarHandle" ∧ (parseMethodDescriptor yX9_dx.desc).map (fun d => d.parameters.length) = some 1 := by decide +kernel
theorem cdM_sign : Cond.code yX9_sign cX9_sign 1 (some .int) ∈ xw := xw_t6 86 rfl rfl
theorem inM_sign : Cond.initialized yX9_sign.cls ∈ xw := xw_t1 11 rfl rfl
theorem imM_sign : Cond.static yX9_sign ∈ xw := xw_t6 85 rfl rfl
theorem pmM_sign : yX9_sign.cls ≠ "java/lang/invoke/MethodHandle" ∧ yX9_sign.cls ≠ "java/lang/invoke/VarHandle" ∧ (parseMethodDescriptor yX9_sign.desc).map (fun d => d.parameters.length) = some 1 := by decide +kernel
theorem cdM_dy : Cond.code yX9_dy cX9_dy 1 (some .int) ∈ xw := xw_t6 89 rfl rfl
theorem inM_dy : Cond.initialized yX9_dy.cls ∈ xw := xw_t1 11 rfl rfl
theorem imM_dy : Cond.static yX9_dy ∈ xw := xw_t6 88 rfl rfl
theorem pmM_dy : yX9_dy.cls ≠ "java/lang/invoke/MethodHandle" ∧ yX9_dy.cls ≠ "java/lang/invoke/VarHandle" ∧ (parseMethodDescriptor yX9_dy.desc).map (fun d => d.parameters.length) = some 1 := by decide +kernel
theorem cdM_wayTo : Cond.code yX9_wayTo cX9_wayTo 7 (some .int) ∈ xw := xw_t6 77 rfl rfl
theorem inM_wayTo : Cond.initialized yX9_wayTo.cls ∈ xw := xw_t1 11 rfl rfl
theorem imM_wayTo : Cond.static yX9_wayTo ∈ xw := xw_t6 76 rfl rfl
theorem pmM_wayTo : yX9_wayTo.cls ≠ "java/lang/invoke/MethodHandle" ∧ yX9_wayTo.cls ≠ "java/lang/invoke/VarHandle" ∧ (parseMethodDescriptor yX9_wayTo.desc).map (fun d => d.parameters.length) = some 4 := by decide +kernel
theorem lkM_107 : Cond.methodLink RX9 107 yX9_size ∈ xw ∨ ∃ host, Cond.methodLinkNest RX9 107 yX9_size host ∈ xnw := Or.inl (xw_t6 78 rfl rfl)
theorem lkM_111 : Cond.methodLink RX9 111 yX9_dx ∈ xw ∨ ∃ host, Cond.methodLinkNest RX9 111 yX9_dx host ∈ xnw := Or.inl (xw_t6 81 rfl rfl)
theorem lkM_114 : Cond.methodLink RX9 114 yX9_sign ∈ xw ∨ ∃ host, Cond.methodLinkNest RX9 114 yX9_sign host ∈ xnw := Or.inl (xw_t6 84 rfl rfl)
theorem lkM_117 : Cond.methodLink RX9 117 yX9_dy ∈ xw ∨ ∃ host, Cond.methodLinkNest RX9 117 yX9_dy host ∈ xnw := Or.inl (xw_t6 87 rfl rfl)
theorem cdM_turnOf : Cond.code yX9_turnOf cX9_turnOf 3 (some .int) ∈ xw := xw_t6 92 rfl rfl
theorem inM_turnOf : Cond.initialized yX9_turnOf.cls ∈ xw := xw_t1 11 rfl rfl
theorem imM_turnOf : Cond.static yX9_turnOf ∈ xw := xw_t6 91 rfl rfl
theorem pmM_turnOf : yX9_turnOf.cls ≠ "java/lang/invoke/MethodHandle" ∧ yX9_turnOf.cls ≠ "java/lang/invoke/VarHandle" ∧ (parseMethodDescriptor yX9_turnOf.desc).map (fun d => d.parameters.length) = some 2 := by decide +kernel
theorem cdM_canRun : Cond.code yX9_canRun cX9_canRun 5 (some .boolean) ∈ xw := xw_t6 62 rfl rfl
theorem inM_canRun : Cond.initialized yX9_canRun.cls ∈ xw := xw_t1 11 rfl rfl
theorem imM_canRun : Cond.instanceMethod yX9_canRun ∈ xw := xw_t6 61 rfl rfl
theorem slM_canRun : Cond.selects RX9 yX9_canRun yX9_canRun ∈ xw := xw_p4 2 44 rfl rfl
theorem pmM_canRun : yX9_canRun.cls ≠ "java/lang/invoke/MethodHandle" ∧ yX9_canRun.cls ≠ "java/lang/invoke/VarHandle" ∧ (parseMethodDescriptor yX9_canRun.desc).map (fun d => d.parameters.length + 1) = some 3 := by decide +kernel
theorem lkM_126 : Cond.methodLink RX9 126 yX9_wayTo ∈ xw ∨ ∃ host, Cond.methodLinkNest RX9 126 yX9_wayTo host ∈ xnw := Or.inl (xw_t6 75 rfl rfl)
theorem lkM_133 : Cond.methodLink RX9 133 yX9_turnOf ∈ xw ∨ ∃ host, Cond.methodLinkNest RX9 133 yX9_turnOf host ∈ xnw := Or.inl (xw_t6 90 rfl rfl)
theorem lkM_286 : Cond.methodLink RX9 286 yX9_newX ∈ xw := xw_t6 63 rfl rfl
theorem lkM_289 : Cond.methodLink RX9 289 yX9_newY ∈ xw := xw_t6 71 rfl rfl
theorem cdM_readPoint : Cond.code yX9_readPoint cX9_readPoint 5 none ∈ xw := xw_t6 58 rfl rfl
theorem inM_readPoint : Cond.initialized yX9_readPoint.cls ∈ xw := xw_t1 11 rfl rfl
theorem imM_readPoint : Cond.instanceMethod yX9_readPoint ∈ xw := xw_t6 57 rfl rfl
theorem slM_readPoint : Cond.selects RX9 yX9_readPoint yX9_readPoint ∈ xw := xw_p4 1 44 rfl rfl
theorem pmM_readPoint : yX9_readPoint.cls ≠ "java/lang/invoke/MethodHandle" ∧ yX9_readPoint.cls ≠ "java/lang/invoke/VarHandle" ∧ (parseMethodDescriptor yX9_readPoint.desc).map (fun d => d.parameters.length + 1) = some 1 := by decide +kernel
theorem lkM_301 : Cond.methodLink RX9 301 yX9_canRun ∈ xw := xw_t6 59 rfl rfl
theorem cdM_readLine : Cond.code yX9_readLine cX9_readLine 4 none ∈ xw := xw_t6 50 rfl rfl
theorem inM_readLine : Cond.initialized yX9_readLine.cls ∈ xw := xw_t1 11 rfl rfl
theorem imM_readLine : Cond.instanceMethod yX9_readLine ∈ xw := xw_t6 49 rfl rfl
theorem slM_readLine : Cond.selects RX9 yX9_readLine yX9_readLine ∈ xw := xw_p3 15 44 rfl rfl
theorem pmM_readLine : yX9_readLine.cls ≠ "java/lang/invoke/MethodHandle" ∧ yX9_readLine.cls ≠ "java/lang/invoke/VarHandle" ∧ (parseMethodDescriptor yX9_readLine.desc).map (fun d => d.parameters.length + 1) = some 1 := by decide +kernel
theorem lkM_307 : Cond.methodLink RX9 307 yX9_isNewName ∈ xw := xw_t6 51 rfl rfl
theorem lkM_311 : Cond.methodLink RX9 311 yX9_numberOf ∈ xw := xw_t6 27 rfl rfl
theorem lkM_315 : Cond.methodLink RX9 315 yX9_readPoint ∈ xw := xw_t6 55 rfl rfl
theorem cdM_readAll : Cond.code yX9_readAll cX9_readAll 1 none ∈ xw := xw_t6 0 rfl rfl
theorem inM_readAll : Cond.initialized yX9_readAll.cls ∈ xw := xw_t1 11 rfl rfl
theorem imM_readAll : Cond.instanceMethod yX9_readAll ∈ xw := xw_t5 239 rfl rfl
theorem slM_readAll : Cond.selects RX9 yX9_readAll yX9_readAll ∈ xw := xw_p3 5 44 rfl rfl
theorem pmM_readAll : yX9_readAll.cls ≠ "java/lang/invoke/MethodHandle" ∧ yX9_readAll.cls ≠ "java/lang/invoke/VarHandle" ∧ (parseMethodDescriptor yX9_readAll.desc).map (fun d => d.parameters.length + 1) = some 1 := by decide +kernel
theorem lkM_318 : Cond.methodLink RX9 318 yX9_readLine ∈ xw := xw_t6 47 rfl rfl
theorem cdM_load : Cond.code yX9_load cX9_load 2 (some .int) ∈ xw := xw_t5 236 rfl rfl
theorem inM_load : Cond.initialized yX9_load.cls ∈ xw := xw_t1 11 rfl rfl
theorem imM_load : Cond.instanceMethod yX9_load ∈ xw := xw_t5 234 rfl rfl
theorem slM_load : Cond.selects RX9 yX9_load yX9_load ∈ xw := xw_t5 235 rfl rfl
theorem pmM_load : yX9_load.cls ≠ "java/lang/invoke/MethodHandle" ∧ yX9_load.cls ≠ "java/lang/invoke/VarHandle" ∧ (parseMethodDescriptor yX9_load.desc).map (fun d => d.parameters.length + 1) = some 1 := by decide +kernel
theorem lkM_82 : Cond.methodLink RX9 82 yX9_empties ∈ xw := xw_t5 81 rfl rfl
theorem lkM_324 : Cond.methodLink RX9 324 yX9_readAll ∈ xw := xw_t5 237 rfl rfl
theorem cdD_errorPosition : Cond.code yX8_errorPosition cX8_errorPosition 1 (some .int) ∈ xw := xw_t2 239 rfl rfl
theorem inD_errorPosition : Cond.initialized yX8_errorPosition.cls ∈ xw := xw_t1 1 rfl rfl
theorem imD_errorPosition : Cond.instanceMethod yX8_errorPosition ∈ xw := xw_t2 237 rfl rfl
theorem slD_errorPosition : Cond.selects RX8 yX8_errorPosition yX8_errorPosition ∈ xw := xw_t2 238 rfl rfl
theorem pmD_errorPosition : yX8_errorPosition.cls ≠ "java/lang/invoke/MethodHandle" ∧ yX8_errorPosition.cls ≠ "java/lang/invoke/VarHandle" ∧ (parseMethodDescriptor yX8_errorPosition.desc).map (fun d => d.parameters.length + 1) = some 1 := by decide +kernel
theorem cdM_errorPosition : Cond.code yX9_errorPosition cX9_errorPosition 1 (some .int) ∈ xw := xw_t6 96 rfl rfl
theorem inM_errorPosition : Cond.initialized yX9_errorPosition.cls ∈ xw := xw_t1 11 rfl rfl
theorem imM_errorPosition : Cond.instanceMethod yX9_errorPosition ∈ xw := xw_t6 94 rfl rfl
theorem slM_errorPosition : Cond.selects RX9 yX9_errorPosition yX9_errorPosition ∈ xw := xw_t6 95 rfl rfl
theorem pmM_errorPosition : yX9_errorPosition.cls ≠ "java/lang/invoke/MethodHandle" ∧ yX9_errorPosition.cls ≠ "java/lang/invoke/VarHandle" ∧ (parseMethodDescriptor yX9_errorPosition.desc).map (fun d => d.parameters.length + 1) = some 1 := by decide +kernel
theorem cdD_isCell : Cond.code yX8_isCell cX8_isCell 3 (some .boolean) ∈ xw := xw_t3 19 rfl rfl
theorem inD_isCell : Cond.initialized yX8_isCell.cls ∈ xw := xw_t1 1 rfl rfl
theorem imD_isCell : Cond.instanceMethod yX8_isCell ∈ xw := xw_t3 18 rfl rfl
theorem slD_isCell : Cond.selects RX8 yX8_isCell yX8_isCell ∈ xw := xw_p1 15 12 rfl rfl
theorem pmD_isCell : yX8_isCell.cls ≠ "java/lang/invoke/MethodHandle" ∧ yX8_isCell.cls ≠ "java/lang/invoke/VarHandle" ∧ (parseMethodDescriptor yX8_isCell.desc).map (fun d => d.parameters.length + 1) = some 3 := by decide +kernel
theorem cdD_isLine : Cond.code yX8_isLine cX8_isLine 2 (some .boolean) ∈ xw := xw_t3 15 rfl rfl
theorem inD_isLine : Cond.initialized yX8_isLine.cls ∈ xw := xw_t1 1 rfl rfl
theorem imD_isLine : Cond.instanceMethod yX8_isLine ∈ xw := xw_t3 14 rfl rfl
theorem slD_isLine : Cond.selects RX8 yX8_isLine yX8_isLine ∈ xw := xw_p1 14 12 rfl rfl
theorem pmD_isLine : yX8_isLine.cls ≠ "java/lang/invoke/MethodHandle" ∧ yX8_isLine.cls ≠ "java/lang/invoke/VarHandle" ∧ (parseMethodDescriptor yX8_isLine.desc).map (fun d => d.parameters.length + 1) = some 2 := by decide +kernel
theorem cdD_isPoint : Cond.code yX8_isPoint cX8_isPoint 3 (some .boolean) ∈ xw := xw_t3 11 rfl rfl
theorem inD_isPoint : Cond.initialized yX8_isPoint.cls ∈ xw := xw_t1 1 rfl rfl
theorem imD_isPoint : Cond.instanceMethod yX8_isPoint ∈ xw := xw_t3 10 rfl rfl
theorem slD_isPoint : Cond.selects RX8 yX8_isPoint yX8_isPoint ∈ xw := xw_p1 13 12 rfl rfl
theorem pmD_isPoint : yX8_isPoint.cls ≠ "java/lang/invoke/MethodHandle" ∧ yX8_isPoint.cls ≠ "java/lang/invoke/VarHandle" ∧ (parseMethodDescriptor yX8_isPoint.desc).map (fun d => d.parameters.length + 1) = some 3 := by decide +kernel
theorem lkD_115 : Cond.methodLink RX8 115 yX8_isLine ∈ xw := xw_t3 12 rfl rfl
theorem cdLn_refusal : Cond.code yX3_refusal cX3_refusal 2 (some .int) ∈ xw := xw_t3 24 rfl rfl
theorem inLn_refusal : Cond.initialized yX3_refusal.cls ∈ xw := xw_t1 6 rfl rfl
theorem imLn_refusal : Cond.instanceMethod yX3_refusal ∈ xw := xw_t3 22 rfl rfl
theorem slLn_refusal : Cond.selects RX3 yX3_refusal yX3_refusal ∈ xw := xw_t3 23 rfl rfl
theorem pmLn_refusal : yX3_refusal.cls ≠ "java/lang/invoke/MethodHandle" ∧ yX3_refusal.cls ≠ "java/lang/invoke/VarHandle" ∧ (parseMethodDescriptor yX3_refusal.desc).map (fun d => d.parameters.length + 1) = some 2 := by decide +kernel
theorem lkLn_69 : Cond.methodLink RX3 69 yX3_isCrooked ∈ xw := xw_t3 25 rfl rfl
theorem lkLn_73 : Cond.methodLink RX3 73 yX3_isShort ∈ xw := xw_t3 26 rfl rfl
theorem cdD_tryMove : Cond.code yX8_tryMove cX8_tryMove 5 (some .int) ∈ xw := xw_t3 7 rfl rfl
theorem inD_tryMove : Cond.initialized yX8_tryMove.cls ∈ xw := xw_t1 1 rfl rfl
theorem imD_tryMove : Cond.instanceMethod yX8_tryMove ∈ xw := xw_t3 6 rfl rfl
theorem slD_tryMove : Cond.selects RX8 yX8_tryMove yX8_tryMove ∈ xw := xw_p1 12 12 rfl rfl
theorem pmD_tryMove : yX8_tryMove.cls ≠ "java/lang/invoke/MethodHandle" ∧ yX8_tryMove.cls ≠ "java/lang/invoke/VarHandle" ∧ (parseMethodDescriptor yX8_tryMove.desc).map (fun d => d.parameters.length + 1) = some 5 := by decide +kernel
theorem lkD_119 : Cond.methodLink RX8 119 yX8_isCell ∈ xw := xw_t3 16 rfl rfl
theorem lkD_130 : Cond.methodLink RX8 130 yX3_copyFrom ∈ xw := xw_t3 20 rfl rfl
theorem lkD_136 : Cond.methodLink RX8 136 yX8_isPoint ∈ xw := xw_t3 8 rfl rfl
theorem lkD_352 : Cond.methodLink RX8 352 yX3_refusal ∈ xw := xw_t3 21 rfl rfl
theorem cdH_push : Cond.code yX1_push cX1_push 2 none ∈ xw := xw_t3 34 rfl rfl
theorem inH_push : Cond.initialized yX1_push.cls ∈ xw := xw_t1 7 rfl rfl
theorem imH_push : Cond.instanceMethod yX1_push ∈ xw := xw_t3 32 rfl rfl
theorem slH_push : Cond.selects RX1 yX1_push yX1_push ∈ xw := xw_t3 33 rfl rfl
theorem pmH_push : yX1_push.cls ≠ "java/lang/invoke/MethodHandle" ∧ yX1_push.cls ≠ "java/lang/invoke/VarHandle" ∧ (parseMethodDescriptor yX1_push.desc).map (fun d => d.parameters.length + 1) = some 2 := by decide +kernel
theorem lkH_25 : Cond.methodLink RX1 25 yX5_copyFrom ∈ xw := xw_t3 35 rfl rfl
theorem cdD_columnOf : Cond.code yX8_columnOf cX8_columnOf 1 (some .int) ∈ xw := xw_t3 55 rfl rfl
theorem inD_columnOf : Cond.initialized yX8_columnOf.cls ∈ xw := xw_t1 1 rfl rfl
theorem imD_columnOf : Cond.static yX8_columnOf ∈ xw := xw_t3 54 rfl rfl
theorem pmD_columnOf : yX8_columnOf.cls ≠ "java/lang/invoke/MethodHandle" ∧ yX8_columnOf.cls ≠ "java/lang/invoke/VarHandle" ∧ (parseMethodDescriptor yX8_columnOf.desc).map (fun d => d.parameters.length) = some 1 := by decide +kernel
theorem cdD_rowOf : Cond.code yX8_rowOf cX8_rowOf 1 (some .int) ∈ xw := xw_t3 61 rfl rfl
theorem inD_rowOf : Cond.initialized yX8_rowOf.cls ∈ xw := xw_t1 1 rfl rfl
theorem imD_rowOf : Cond.static yX8_rowOf ∈ xw := xw_t3 60 rfl rfl
theorem pmD_rowOf : yX8_rowOf.cls ≠ "java/lang/invoke/MethodHandle" ∧ yX8_rowOf.cls ≠ "java/lang/invoke/VarHandle" ∧ (parseMethodDescriptor yX8_rowOf.desc).map (fun d => d.parameters.length) = some 1 := by decide +kernel
theorem cdB_columnsTo : Cond.code yX0_columnsTo cX0_columnsTo 2 (some .int) ∈ xw := xw_t3 58 rfl rfl
theorem inB_columnsTo : Cond.initialized yX0_columnsTo.cls ∈ xw := xw_t1 8 rfl rfl
theorem imB_columnsTo : Cond.static yX0_columnsTo ∈ xw := xw_t3 57 rfl rfl
theorem pmB_columnsTo : yX0_columnsTo.cls ≠ "java/lang/invoke/MethodHandle" ∧ yX0_columnsTo.cls ≠ "java/lang/invoke/VarHandle" ∧ (parseMethodDescriptor yX0_columnsTo.desc).map (fun d => d.parameters.length) = some 2 := by decide +kernel
theorem cdB_rowsTo : Cond.code yX0_rowsTo cX0_rowsTo 1 (some .int) ∈ xw := xw_t3 64 rfl rfl
theorem inB_rowsTo : Cond.initialized yX0_rowsTo.cls ∈ xw := xw_t1 8 rfl rfl
theorem imB_rowsTo : Cond.static yX0_rowsTo ∈ xw := xw_t3 63 rfl rfl
theorem pmB_rowsTo : yX0_rowsTo.cls ≠ "java/lang/invoke/MethodHandle" ∧ yX0_rowsTo.cls ≠ "java/lang/invoke/VarHandle" ∧ (parseMethodDescriptor yX0_rowsTo.desc).map (fun d => d.parameters.length) = some 1 := by decide +kernel
theorem cdB_holds : Cond.code yX0_holds cX0_holds 3 (some .boolean) ∈ xw := xw_t3 68 rfl rfl
theorem inB_holds : Cond.initialized yX0_holds.cls ∈ xw := xw_t1 8 rfl rfl
theorem imB_holds : Cond.instanceMethod yX0_holds ∈ xw := xw_t3 67 rfl rfl
theorem slB_holds : Cond.selects RX0 yX0_holds yX0_holds ∈ xw := xw_p2 3 9 rfl rfl
theorem pmB_holds : yX0_holds.cls ≠ "java/lang/invoke/MethodHandle" ∧ yX0_holds.cls ≠ "java/lang/invoke/VarHandle" ∧ (parseMethodDescriptor yX0_holds.desc).map (fun d => d.parameters.length + 1) = some 3 := by decide +kernel
theorem cdB_beginOf : Cond.code yX0_beginOf cX0_beginOf 5 (some .int) ∈ xw := xw_t3 52 rfl rfl
theorem inB_beginOf : Cond.initialized yX0_beginOf.cls ∈ xw := xw_t1 8 rfl rfl
theorem imB_beginOf : Cond.instanceMethod yX0_beginOf ∈ xw := xw_t3 51 rfl rfl
theorem slB_beginOf : Cond.selects RX0 yX0_beginOf yX0_beginOf ∈ xw := xw_p2 2 9 rfl rfl
theorem pmB_beginOf : yX0_beginOf.cls ≠ "java/lang/invoke/MethodHandle" ∧ yX0_beginOf.cls ≠ "java/lang/invoke/VarHandle" ∧ (parseMethodDescriptor yX0_beginOf.desc).map (fun d => d.parameters.length + 1) = some 3 := by decide +kernel
theorem lkB_147 : Cond.methodLink RX0 147 yX8_columnOf ∈ xw ∨ ∃ host, Cond.methodLinkNest RX0 147 yX8_columnOf host ∈ xnw := Or.inr ⟨"LineDiagram", List.mem_of_getElem? (i := 12) rfl⟩
theorem lkB_153 : Cond.methodLink RX0 153 yX8_rowOf ∈ xw ∨ ∃ host, Cond.methodLinkNest RX0 153 yX8_rowOf host ∈ xnw := Or.inr ⟨"LineDiagram", List.mem_of_getElem? (i := 13) rfl⟩
theorem lkB_156 : Cond.methodLink RX0 156 yX0_columnsTo ∈ xw ∨ ∃ host, Cond.methodLinkNest RX0 156 yX0_columnsTo host ∈ xnw := Or.inl (xw_t3 56 rfl rfl)
theorem lkB_159 : Cond.methodLink RX0 159 yX0_rowsTo ∈ xw ∨ ∃ host, Cond.methodLinkNest RX0 159 yX0_rowsTo host ∈ xnw := Or.inl (xw_t3 62 rfl rfl)
theorem lkB_162 : Cond.methodLink RX0 162 yX0_holds ∈ xw := xw_t3 65 rfl rfl
theorem cdB_reason : Cond.code yX0_reason cX0_reason 6 (some .int) ∈ xw := xw_t3 48 rfl rfl
theorem inB_reason : Cond.initialized yX0_reason.cls ∈ xw := xw_t1 8 rfl rfl
theorem imB_reason : Cond.instanceMethod yX0_reason ∈ xw := xw_t3 46 rfl rfl
theorem slB_reason : Cond.selects RX0 yX0_reason yX0_reason ∈ xw := xw_t3 47 rfl rfl
theorem pmB_reason : yX0_reason.cls ≠ "java/lang/invoke/MethodHandle" ∧ yX0_reason.cls ≠ "java/lang/invoke/VarHandle" ∧ (parseMethodDescriptor yX0_reason.desc).map (fun d => d.parameters.length + 1) = some 3 := by decide +kernel
theorem lkB_165 : Cond.methodLink RX0 165 yX0_beginOf ∈ xw := xw_t3 49 rfl rfl
theorem cdB_paint : Cond.code yX0_paint cX0_paint 6 none ∈ xw := xw_t3 72 rfl rfl
theorem inB_paint : Cond.initialized yX0_paint.cls ∈ xw := xw_t1 8 rfl rfl
theorem imB_paint : Cond.instanceMethod yX0_paint ∈ xw := xw_t3 70 rfl rfl
theorem slB_paint : Cond.selects RX0 yX0_paint yX0_paint ∈ xw := xw_t3 71 rfl rfl
theorem pmB_paint : yX0_paint.cls ≠ "java/lang/invoke/MethodHandle" ∧ yX0_paint.cls ≠ "java/lang/invoke/VarHandle" ∧ (parseMethodDescriptor yX0_paint.desc).map (fun d => d.parameters.length + 1) = some 4 := by decide +kernel
theorem cdLb_keepFitting : Cond.code yX2_keepFitting cX2_keepFitting 6 (some .int) ∈ xw := xw_t3 44 rfl rfl
theorem inLb_keepFitting : Cond.initialized yX2_keepFitting.cls ∈ xw := xw_t1 5 rfl rfl
theorem imLb_keepFitting : Cond.instanceMethod yX2_keepFitting ∈ xw := xw_t3 42 rfl rfl
theorem slLb_keepFitting : Cond.selects RX2 yX2_keepFitting yX2_keepFitting ∈ xw := xw_t3 43 rfl rfl
theorem pmLb_keepFitting : yX2_keepFitting.cls ≠ "java/lang/invoke/MethodHandle" ∧ yX2_keepFitting.cls ≠ "java/lang/invoke/VarHandle" ∧ (parseMethodDescriptor yX2_keepFitting.desc).map (fun d => d.parameters.length + 1) = some 2 := by decide +kernel
theorem lkLb_37 : Cond.methodLink RX2 37 yX0_reason ∈ xw := xw_t3 45 rfl rfl
theorem lkLb_41 : Cond.methodLink RX2 41 yX0_paint ∈ xw := xw_t3 69 rfl rfl
theorem cdD_putTrial : Cond.code yX8_putTrial cX8_putTrial 2 (some .int) ∈ xw := xw_t3 40 rfl rfl
theorem inD_putTrial : Cond.initialized yX8_putTrial.cls ∈ xw := xw_t1 1 rfl rfl
theorem imD_putTrial : Cond.instanceMethod yX8_putTrial ∈ xw := xw_t3 39 rfl rfl
theorem slD_putTrial : Cond.selects RX8 yX8_putTrial yX8_putTrial ∈ xw := xw_p2 1 12 rfl rfl
theorem pmD_putTrial : yX8_putTrial.cls ≠ "java/lang/invoke/MethodHandle" ∧ yX8_putTrial.cls ≠ "java/lang/invoke/VarHandle" ∧ (parseMethodDescriptor yX8_putTrial.desc).map (fun d => d.parameters.length + 1) = some 2 := by decide +kernel
theorem lkD_355 : Cond.methodLink RX8 355 yX2_keepFitting ∈ xw := xw_t3 41 rfl rfl
theorem cdD_change : Cond.code yX8_change cX8_change 3 (some .int) ∈ xw := xw_t3 30 rfl rfl
theorem inD_change : Cond.initialized yX8_change.cls ∈ xw := xw_t1 1 rfl rfl
theorem imD_change : Cond.instanceMethod yX8_change ∈ xw := xw_t3 29 rfl rfl
theorem slD_change : Cond.selects RX8 yX8_change yX8_change ∈ xw := xw_p2 0 12 rfl rfl
theorem pmD_change : yX8_change.cls ≠ "java/lang/invoke/MethodHandle" ∧ yX8_change.cls ≠ "java/lang/invoke/VarHandle" ∧ (parseMethodDescriptor yX8_change.desc).map (fun d => d.parameters.length + 1) = some 2 := by decide +kernel
theorem lkD_173 : Cond.methodLink RX8 173 yX1_push ∈ xw := xw_t3 31 rfl rfl
theorem lkD_320 : Cond.methodLink RX8 320 yX8_putTrial ∈ xw := xw_t3 37 rfl rfl
theorem cdD_moveBend : Cond.code yX8_moveBend cX8_moveBend 6 (some .int) ∈ xw := xw_t3 3 rfl rfl
theorem inD_moveBend : Cond.initialized yX8_moveBend.cls ∈ xw := xw_t1 1 rfl rfl
theorem imD_moveBend : Cond.instanceMethod yX8_moveBend ∈ xw := xw_t3 1 rfl rfl
theorem slD_moveBend : Cond.selects RX8 yX8_moveBend yX8_moveBend ∈ xw := xw_t3 2 rfl rfl
theorem pmD_moveBend : yX8_moveBend.cls ≠ "java/lang/invoke/MethodHandle" ∧ yX8_moveBend.cls ≠ "java/lang/invoke/VarHandle" ∧ (parseMethodDescriptor yX8_moveBend.desc).map (fun d => d.parameters.length + 1) = some 5 := by decide +kernel
theorem lkD_107 : Cond.methodLink RX8 107 yX8_tryMove ∈ xw := xw_t3 4 rfl rfl
theorem lkD_111 : Cond.methodLink RX8 111 yX8_change ∈ xw := xw_t3 27 rfl rfl
theorem cdM_of : Cond.code yX9_of cX9_of 3 (some .int) ∈ xw := xw_t6 120 rfl rfl
theorem inM_of : Cond.initialized yX9_of.cls ∈ xw := xw_t1 11 rfl rfl
theorem imM_of : Cond.instanceMethod yX9_of ∈ xw := xw_t6 119 rfl rfl
theorem slM_of : Cond.selects RX9 yX9_of yX9_of ∈ xw := xw_p4 9 44 rfl rfl
theorem pmM_of : yX9_of.cls ≠ "java/lang/invoke/MethodHandle" ∧ yX9_of.cls ≠ "java/lang/invoke/VarHandle" ∧ (parseMethodDescriptor yX9_of.desc).map (fun d => d.parameters.length + 1) = some 3 := by decide +kernel
theorem cdM_px : Cond.code yX9_px cX9_px 3 (some .int) ∈ xw := xw_t6 128 rfl rfl
theorem inM_px : Cond.initialized yX9_px.cls ∈ xw := xw_t1 11 rfl rfl
theorem imM_px : Cond.instanceMethod yX9_px ∈ xw := xw_t6 127 rfl rfl
theorem slM_px : Cond.selects RX9 yX9_px yX9_px ∈ xw := xw_p4 11 44 rfl rfl
theorem pmM_px : yX9_px.cls ≠ "java/lang/invoke/MethodHandle" ∧ yX9_px.cls ≠ "java/lang/invoke/VarHandle" ∧ (parseMethodDescriptor yX9_px.desc).map (fun d => d.parameters.length + 1) = some 3 := by decide +kernel
theorem lkM_88 : Cond.methodLink RX9 88 yX9_of ∈ xw := xw_t6 117 rfl rfl
theorem cdM_py : Cond.code yX9_py cX9_py 3 (some .int) ∈ xw := xw_t6 132 rfl rfl
theorem inM_py : Cond.initialized yX9_py.cls ∈ xw := xw_t1 11 rfl rfl
theorem imM_py : Cond.instanceMethod yX9_py ∈ xw := xw_t6 131 rfl rfl
theorem slM_py : Cond.selects RX9 yX9_py yX9_py ∈ xw := xw_p4 12 44 rfl rfl
theorem pmM_py : yX9_py.cls ≠ "java/lang/invoke/MethodHandle" ∧ yX9_py.cls ≠ "java/lang/invoke/VarHandle" ∧ (parseMethodDescriptor yX9_py.desc).map (fun d => d.parameters.length + 1) = some 3 := by decide +kernel
theorem cdM_isLine : Cond.code yX9_isLine cX9_isLine 2 (some .boolean) ∈ xw := xw_t6 116 rfl rfl
theorem inM_isLine : Cond.initialized yX9_isLine.cls ∈ xw := xw_t1 11 rfl rfl
theorem imM_isLine : Cond.instanceMethod yX9_isLine ∈ xw := xw_t6 115 rfl rfl
theorem slM_isLine : Cond.selects RX9 yX9_isLine yX9_isLine ∈ xw := xw_p4 8 44 rfl rfl
theorem pmM_isLine : yX9_isLine.cls ≠ "java/lang/invoke/MethodHandle" ∧ yX9_isLine.cls ≠ "java/lang/invoke/VarHandle" ∧ (parseMethodDescriptor yX9_isLine.desc).map (fun d => d.parameters.length + 1) = some 2 := by decide +kernel
theorem cdM_isPoint : Cond.code yX9_isPoint cX9_isPoint 3 (some .boolean) ∈ xw := xw_t6 112 rfl rfl
theorem inM_isPoint : Cond.initialized yX9_isPoint.cls ∈ xw := xw_t1 11 rfl rfl
theorem imM_isPoint : Cond.instanceMethod yX9_isPoint ∈ xw := xw_t6 111 rfl rfl
theorem slM_isPoint : Cond.selects RX9 yX9_isPoint yX9_isPoint ∈ xw := xw_p4 7 44 rfl rfl
theorem pmM_isPoint : yX9_isPoint.cls ≠ "java/lang/invoke/MethodHandle" ∧ yX9_isPoint.cls ≠ "java/lang/invoke/VarHandle" ∧ (parseMethodDescriptor yX9_isPoint.desc).map (fun d => d.parameters.length + 1) = some 3 := by decide +kernel
theorem lkM_103 : Cond.methodLink RX9 103 yX9_isLine ∈ xw := xw_t6 113 rfl rfl
theorem cdM_isCell : Cond.code yX9_isCell cX9_isCell 3 (some .boolean) ∈ xw := xw_t6 124 rfl rfl
theorem inM_isCell : Cond.initialized yX9_isCell.cls ∈ xw := xw_t1 11 rfl rfl
theorem imM_isCell : Cond.instanceMethod yX9_isCell ∈ xw := xw_t6 123 rfl rfl
theorem slM_isCell : Cond.selects RX9 yX9_isCell yX9_isCell ∈ xw := xw_p4 10 44 rfl rfl
theorem pmM_isCell : yX9_isCell.cls ≠ "java/lang/invoke/MethodHandle" ∧ yX9_isCell.cls ≠ "java/lang/invoke/VarHandle" ∧ (parseMethodDescriptor yX9_isCell.desc).map (fun d => d.parameters.length + 1) = some 3 := by decide +kernel
theorem cdM_moveFault : Cond.code yX9_moveFault cX9_moveFault 5 (some .int) ∈ xw := xw_t6 108 rfl rfl
theorem inM_moveFault : Cond.initialized yX9_moveFault.cls ∈ xw := xw_t1 11 rfl rfl
theorem imM_moveFault : Cond.instanceMethod yX9_moveFault ∈ xw := xw_t6 107 rfl rfl
theorem slM_moveFault : Cond.selects RX9 yX9_moveFault yX9_moveFault ∈ xw := xw_p4 6 44 rfl rfl
theorem pmM_moveFault : yX9_moveFault.cls ≠ "java/lang/invoke/MethodHandle" ∧ yX9_moveFault.cls ≠ "java/lang/invoke/VarHandle" ∧ (parseMethodDescriptor yX9_moveFault.desc).map (fun d => d.parameters.length + 1) = some 5 := by decide +kernel
theorem lkM_120 : Cond.methodLink RX9 120 yX9_px ∈ xw := xw_t6 125 rfl rfl
theorem lkM_123 : Cond.methodLink RX9 123 yX9_py ∈ xw := xw_t6 129 rfl rfl
theorem lkM_343 : Cond.methodLink RX9 343 yX9_isPoint ∈ xw := xw_t6 109 rfl rfl
theorem lkM_346 : Cond.methodLink RX9 346 yX9_isCell ∈ xw := xw_t6 121 rfl rfl
theorem cdM_thinks : Cond.code yX9_thinks cX9_thinks 2 none ∈ xw := xw_t6 136 rfl rfl
theorem inM_thinks : Cond.initialized yX9_thinks.cls ∈ xw := xw_t1 11 rfl rfl
theorem imM_thinks : Cond.instanceMethod yX9_thinks ∈ xw := xw_t6 135 rfl rfl
theorem slM_thinks : Cond.selects RX9 yX9_thinks yX9_thinks ∈ xw := xw_p4 13 44 rfl rfl
theorem pmM_thinks : yX9_thinks.cls ≠ "java/lang/invoke/MethodHandle" ∧ yX9_thinks.cls ≠ "java/lang/invoke/VarHandle" ∧ (parseMethodDescriptor yX9_thinks.desc).map (fun d => d.parameters.length + 1) = some 1 := by decide +kernel
theorem cdM_puts : Cond.code yX9_puts cX9_puts 4 none ∈ xw := xw_t6 144 rfl rfl
theorem inM_puts : Cond.initialized yX9_puts.cls ∈ xw := xw_t1 11 rfl rfl
theorem imM_puts : Cond.instanceMethod yX9_puts ∈ xw := xw_t6 143 rfl rfl
theorem slM_puts : Cond.selects RX9 yX9_puts yX9_puts ∈ xw := xw_p4 15 44 rfl rfl
theorem pmM_puts : yX9_puts.cls ≠ "java/lang/invoke/MethodHandle" ∧ yX9_puts.cls ≠ "java/lang/invoke/VarHandle" ∧ (parseMethodDescriptor yX9_puts.desc).map (fun d => d.parameters.length + 1) = some 4 := by decide +kernel
theorem cdM_putsPoint : Cond.code yX9_putsPoint cX9_putsPoint 5 none ∈ xw := xw_t6 140 rfl rfl
theorem inM_putsPoint : Cond.initialized yX9_putsPoint.cls ∈ xw := xw_t1 11 rfl rfl
theorem imM_putsPoint : Cond.instanceMethod yX9_putsPoint ∈ xw := xw_t6 139 rfl rfl
theorem slM_putsPoint : Cond.selects RX9 yX9_putsPoint yX9_putsPoint ∈ xw := xw_p4 14 44 rfl rfl
theorem pmM_putsPoint : yX9_putsPoint.cls ≠ "java/lang/invoke/MethodHandle" ∧ yX9_putsPoint.cls ≠ "java/lang/invoke/VarHandle" ∧ (parseMethodDescriptor yX9_putsPoint.desc).map (fun d => d.parameters.length + 1) = some 5 := by decide +kernel
theorem lkM_92 : Cond.methodLink RX9 92 yX9_puts ∈ xw := xw_t6 141 rfl rfl
theorem cdM_wayOf : Cond.code yX9_wayOf cX9_wayOf 3 (some .int) ∈ xw := xw_t6 156 rfl rfl
theorem inM_wayOf : Cond.initialized yX9_wayOf.cls ∈ xw := xw_t1 11 rfl rfl
theorem imM_wayOf : Cond.instanceMethod yX9_wayOf ∈ xw := xw_t6 155 rfl rfl
theorem slM_wayOf : Cond.selects RX9 yX9_wayOf yX9_wayOf ∈ xw := xw_p5 2 44 rfl rfl
theorem pmM_wayOf : yX9_wayOf.cls ≠ "java/lang/invoke/MethodHandle" ∧ yX9_wayOf.cls ≠ "java/lang/invoke/VarHandle" ∧ (parseMethodDescriptor yX9_wayOf.desc).map (fun d => d.parameters.length + 1) = some 3 := by decide +kernel
theorem cdM_turnAt : Cond.code yX9_turnAt cX9_turnAt 3 (some .int) ∈ xw := xw_t6 160 rfl rfl
theorem inM_turnAt : Cond.initialized yX9_turnAt.cls ∈ xw := xw_t1 11 rfl rfl
theorem imM_turnAt : Cond.instanceMethod yX9_turnAt ∈ xw := xw_t6 159 rfl rfl
theorem slM_turnAt : Cond.selects RX9 yX9_turnAt yX9_turnAt ∈ xw := xw_p5 3 44 rfl rfl
theorem pmM_turnAt : yX9_turnAt.cls ≠ "java/lang/invoke/MethodHandle" ∧ yX9_turnAt.cls ≠ "java/lang/invoke/VarHandle" ∧ (parseMethodDescriptor yX9_turnAt.desc).map (fun d => d.parameters.length + 1) = some 3 := by decide +kernel
theorem lkM_130 : Cond.methodLink RX9 130 yX9_wayOf ∈ xw := xw_t6 153 rfl rfl
theorem cdM_stepsOf : Cond.code yX9_stepsOf cX9_stepsOf 5 (some .int) ∈ xw := xw_t6 168 rfl rfl
theorem inM_stepsOf : Cond.initialized yX9_stepsOf.cls ∈ xw := xw_t1 11 rfl rfl
theorem imM_stepsOf : Cond.instanceMethod yX9_stepsOf ∈ xw := xw_t6 167 rfl rfl
theorem slM_stepsOf : Cond.selects RX9 yX9_stepsOf yX9_stepsOf ∈ xw := xw_p5 5 44 rfl rfl
theorem pmM_stepsOf : yX9_stepsOf.cls ≠ "java/lang/invoke/MethodHandle" ∧ yX9_stepsOf.cls ≠ "java/lang/invoke/VarHandle" ∧ (parseMethodDescriptor yX9_stepsOf.desc).map (fun d => d.parameters.length + 1) = some 3 := by decide +kernel
theorem cdM_lengthOf : Cond.code yX9_lengthOf cX9_lengthOf 4 (some .int) ∈ xw := xw_t6 164 rfl rfl
theorem inM_lengthOf : Cond.initialized yX9_lengthOf.cls ∈ xw := xw_t1 11 rfl rfl
theorem imM_lengthOf : Cond.instanceMethod yX9_lengthOf ∈ xw := xw_t6 163 rfl rfl
theorem slM_lengthOf : Cond.selects RX9 yX9_lengthOf yX9_lengthOf ∈ xw := xw_p5 4 44 rfl rfl
theorem pmM_lengthOf : yX9_lengthOf.cls ≠ "java/lang/invoke/MethodHandle" ∧ yX9_lengthOf.cls ≠ "java/lang/invoke/VarHandle" ∧ (parseMethodDescriptor yX9_lengthOf.desc).map (fun d => d.parameters.length + 1) = some 2 := by decide +kernel
theorem lkM_136 : Cond.methodLink RX9 136 yX9_stepsOf ∈ xw := xw_t6 165 rfl rfl
theorem cdM_faultOf : Cond.code yX9_faultOf cX9_faultOf 3 (some .int) ∈ xw := xw_t6 152 rfl rfl
theorem inM_faultOf : Cond.initialized yX9_faultOf.cls ∈ xw := xw_t1 11 rfl rfl
theorem imM_faultOf : Cond.instanceMethod yX9_faultOf ∈ xw := xw_t6 151 rfl rfl
theorem slM_faultOf : Cond.selects RX9 yX9_faultOf yX9_faultOf ∈ xw := xw_p5 1 44 rfl rfl
theorem pmM_faultOf : yX9_faultOf.cls ≠ "java/lang/invoke/MethodHandle" ∧ yX9_faultOf.cls ≠ "java/lang/invoke/VarHandle" ∧ (parseMethodDescriptor yX9_faultOf.desc).map (fun d => d.parameters.length + 1) = some 2 := by decide +kernel
theorem lkM_139 : Cond.methodLink RX9 139 yX9_turnAt ∈ xw := xw_t6 157 rfl rfl
theorem lkM_142 : Cond.methodLink RX9 142 yX9_lengthOf ∈ xw := xw_t6 161 rfl rfl
theorem cdM_comesBack : Cond.code yX9_comesBack cX9_comesBack 2 none ∈ xw := xw_t6 172 rfl rfl
theorem inM_comesBack : Cond.initialized yX9_comesBack.cls ∈ xw := xw_t1 11 rfl rfl
theorem imM_comesBack : Cond.instanceMethod yX9_comesBack ∈ xw := xw_t6 171 rfl rfl
theorem slM_comesBack : Cond.selects RX9 yX9_comesBack yX9_comesBack ∈ xw := xw_p5 6 44 rfl rfl
theorem pmM_comesBack : yX9_comesBack.cls ≠ "java/lang/invoke/MethodHandle" ∧ yX9_comesBack.cls ≠ "java/lang/invoke/VarHandle" ∧ (parseMethodDescriptor yX9_comesBack.desc).map (fun d => d.parameters.length + 1) = some 1 := by decide +kernel
theorem cdM_cell : Cond.code yX9_cell cX9_cell 2 (some .int) ∈ xw := xw_t6 183 rfl rfl
theorem inM_cell : Cond.initialized yX9_cell.cls ∈ xw := xw_t1 11 rfl rfl
theorem imM_cell : Cond.static yX9_cell ∈ xw := xw_t6 182 rfl rfl
theorem pmM_cell : yX9_cell.cls ≠ "java/lang/invoke/MethodHandle" ∧ yX9_cell.cls ≠ "java/lang/invoke/VarHandle" ∧ (parseMethodDescriptor yX9_cell.desc).map (fun d => d.parameters.length) = some 2 := by decide +kernel
theorem cdM_columnOf : Cond.code yX9_columnOf cX9_columnOf 4 (some .int) ∈ xw := xw_t6 227 rfl rfl
theorem inM_columnOf : Cond.initialized yX9_columnOf.cls ∈ xw := xw_t1 11 rfl rfl
theorem imM_columnOf : Cond.instanceMethod yX9_columnOf ∈ xw := xw_t6 226 rfl rfl
theorem slM_columnOf : Cond.selects RX9 yX9_columnOf yX9_columnOf ∈ xw := xw_p6 3 44 rfl rfl
theorem pmM_columnOf : yX9_columnOf.cls ≠ "java/lang/invoke/MethodHandle" ∧ yX9_columnOf.cls ≠ "java/lang/invoke/VarHandle" ∧ (parseMethodDescriptor yX9_columnOf.desc).map (fun d => d.parameters.length + 1) = some 3 := by decide +kernel
theorem cdM_rowOf : Cond.code yX9_rowOf cX9_rowOf 3 (some .int) ∈ xw := xw_t6 230 rfl rfl
theorem inM_rowOf : Cond.initialized yX9_rowOf.cls ∈ xw := xw_t1 11 rfl rfl
theorem imM_rowOf : Cond.static yX9_rowOf ∈ xw := xw_t6 229 rfl rfl
theorem pmM_rowOf : yX9_rowOf.cls ≠ "java/lang/invoke/MethodHandle" ∧ yX9_rowOf.cls ≠ "java/lang/invoke/VarHandle" ∧ (parseMethodDescriptor yX9_rowOf.desc).map (fun d => d.parameters.length) = some 2 := by decide +kernel
theorem cdM_laysLabel : Cond.code yX9_laysLabel cX9_laysLabel 6 none ∈ xw := xw_t7 2 rfl rfl
theorem inM_laysLabel : Cond.initialized yX9_laysLabel.cls ∈ xw := xw_t1 11 rfl rfl
theorem imM_laysLabel : Cond.instanceMethod yX9_laysLabel ∈ xw := xw_t7 1 rfl rfl
theorem slM_laysLabel : Cond.selects RX9 yX9_laysLabel yX9_laysLabel ∈ xw := xw_p6 6 44 rfl rfl
theorem pmM_laysLabel : yX9_laysLabel.cls ≠ "java/lang/invoke/MethodHandle" ∧ yX9_laysLabel.cls ≠ "java/lang/invoke/VarHandle" ∧ (parseMethodDescriptor yX9_laysLabel.desc).map (fun d => d.parameters.length + 1) = some 4 := by decide +kernel
theorem lkM_145 : Cond.methodLink RX9 145 yX9_cell ∈ xw ∨ ∃ host, Cond.methodLinkNest RX9 145 yX9_cell host ∈ xnw := Or.inl (xw_t6 181 rfl rfl)
theorem lkM_165 : Cond.methodLink RX9 165 yX9_columnOf ∈ xw := xw_t6 224 rfl rfl
theorem lkM_168 : Cond.methodLink RX9 168 yX9_rowOf ∈ xw ∨ ∃ host, Cond.methodLinkNest RX9 168 yX9_rowOf host ∈ xnw := Or.inl (xw_t6 228 rfl rfl)
theorem cdM_labelOf : Cond.code yX9_labelOf cX9_labelOf 2 (some .int) ∈ xw := xw_t6 211 rfl rfl
theorem inM_labelOf : Cond.initialized yX9_labelOf.cls ∈ xw := xw_t1 11 rfl rfl
theorem imM_labelOf : Cond.instanceMethod yX9_labelOf ∈ xw := xw_t6 210 rfl rfl
theorem slM_labelOf : Cond.selects RX9 yX9_labelOf yX9_labelOf ∈ xw := xw_p5 15 44 rfl rfl
theorem pmM_labelOf : yX9_labelOf.cls ≠ "java/lang/invoke/MethodHandle" ∧ yX9_labelOf.cls ≠ "java/lang/invoke/VarHandle" ∧ (parseMethodDescriptor yX9_labelOf.desc).map (fun d => d.parameters.length + 1) = some 2 := by decide +kernel
theorem cdM_laysRun : Cond.code yX9_laysRun cX9_laysRun 7 none ∈ xw := xw_t6 187 rfl rfl
theorem inM_laysRun : Cond.initialized yX9_laysRun.cls ∈ xw := xw_t1 11 rfl rfl
theorem imM_laysRun : Cond.instanceMethod yX9_laysRun ∈ xw := xw_t6 186 rfl rfl
theorem slM_laysRun : Cond.selects RX9 yX9_laysRun yX9_laysRun ∈ xw := xw_p5 9 44 rfl rfl
theorem pmM_laysRun : yX9_laysRun.cls ≠ "java/lang/invoke/MethodHandle" ∧ yX9_laysRun.cls ≠ "java/lang/invoke/VarHandle" ∧ (parseMethodDescriptor yX9_laysRun.desc).map (fun d => d.parameters.length + 1) = some 3 := by decide +kernel
theorem cdM_stepsTo : Cond.code yX9_stepsTo cX9_stepsTo 3 (some .int) ∈ xw := xw_t6 199 rfl rfl
theorem inM_stepsTo : Cond.initialized yX9_stepsTo.cls ∈ xw := xw_t1 11 rfl rfl
theorem imM_stepsTo : Cond.instanceMethod yX9_stepsTo ∈ xw := xw_t6 198 rfl rfl
theorem slM_stepsTo : Cond.selects RX9 yX9_stepsTo yX9_stepsTo ∈ xw := xw_p5 12 44 rfl rfl
theorem pmM_stepsTo : yX9_stepsTo.cls ≠ "java/lang/invoke/MethodHandle" ∧ yX9_stepsTo.cls ≠ "java/lang/invoke/VarHandle" ∧ (parseMethodDescriptor yX9_stepsTo.desc).map (fun d => d.parameters.length + 1) = some 3 := by decide +kernel
theorem cdM_cellOf : Cond.code yX9_cellOf cX9_cellOf 3 (some .int) ∈ xw := xw_t6 195 rfl rfl
theorem inM_cellOf : Cond.initialized yX9_cellOf.cls ∈ xw := xw_t1 11 rfl rfl
theorem imM_cellOf : Cond.instanceMethod yX9_cellOf ∈ xw := xw_t6 194 rfl rfl
theorem slM_cellOf : Cond.selects RX9 yX9_cellOf yX9_cellOf ∈ xw := xw_p5 11 44 rfl rfl
theorem pmM_cellOf : yX9_cellOf.cls ≠ "java/lang/invoke/MethodHandle" ∧ yX9_cellOf.cls ≠ "java/lang/invoke/VarHandle" ∧ (parseMethodDescriptor yX9_cellOf.desc).map (fun d => d.parameters.length + 1) = some 3 := by decide +kernel
theorem lkM_148 : Cond.methodLink RX9 148 yX9_stepsTo ∈ xw := xw_t6 196 rfl rfl
theorem cdM_longOfStation : Cond.code yX9_longOfStation cX9_longOfStation 3 (some .int) ∈ xw := xw_t6 203 rfl rfl
theorem inM_longOfStation : Cond.initialized yX9_longOfStation.cls ∈ xw := xw_t1 11 rfl rfl
theorem imM_longOfStation : Cond.instanceMethod yX9_longOfStation ∈ xw := xw_t6 202 rfl rfl
theorem slM_longOfStation : Cond.selects RX9 yX9_longOfStation yX9_longOfStation ∈ xw := xw_p5 13 44 rfl rfl
theorem pmM_longOfStation : yX9_longOfStation.cls ≠ "java/lang/invoke/MethodHandle" ∧ yX9_longOfStation.cls ≠ "java/lang/invoke/VarHandle" ∧ (parseMethodDescriptor yX9_longOfStation.desc).map (fun d => d.parameters.length + 1) = some 3 := by decide +kernel
theorem cdM_laysStations : Cond.code yX9_laysStations cX9_laysStations 5 none ∈ xw := xw_t6 191 rfl rfl
theorem inM_laysStations : Cond.initialized yX9_laysStations.cls ∈ xw := xw_t1 11 rfl rfl
theorem imM_laysStations : Cond.instanceMethod yX9_laysStations ∈ xw := xw_t6 190 rfl rfl
theorem slM_laysStations : Cond.selects RX9 yX9_laysStations yX9_laysStations ∈ xw := xw_p5 10 44 rfl rfl
theorem pmM_laysStations : yX9_laysStations.cls ≠ "java/lang/invoke/MethodHandle" ∧ yX9_laysStations.cls ≠ "java/lang/invoke/VarHandle" ∧ (parseMethodDescriptor yX9_laysStations.desc).map (fun d => d.parameters.length + 1) = some 2 := by decide +kernel
theorem lkM_151 : Cond.methodLink RX9 151 yX9_cellOf ∈ xw := xw_t6 192 rfl rfl
theorem lkM_154 : Cond.methodLink RX9 154 yX9_longOfStation ∈ xw := xw_t6 200 rfl rfl
theorem cdM_laysLines : Cond.code yX9_laysLines cX9_laysLines 4 none ∈ xw := xw_t6 180 rfl rfl
theorem inM_laysLines : Cond.initialized yX9_laysLines.cls ∈ xw := xw_t1 11 rfl rfl
theorem imM_laysLines : Cond.instanceMethod yX9_laysLines ∈ xw := xw_t6 179 rfl rfl
theorem slM_laysLines : Cond.selects RX9 yX9_laysLines yX9_laysLines ∈ xw := xw_p5 8 44 rfl rfl
theorem pmM_laysLines : yX9_laysLines.cls ≠ "java/lang/invoke/MethodHandle" ∧ yX9_laysLines.cls ≠ "java/lang/invoke/VarHandle" ∧ (parseMethodDescriptor yX9_laysLines.desc).map (fun d => d.parameters.length + 1) = some 1 := by decide +kernel
theorem lkM_157 : Cond.methodLink RX9 157 yX9_laysRun ∈ xw := xw_t6 184 rfl rfl
theorem lkM_161 : Cond.methodLink RX9 161 yX9_laysStations ∈ xw := xw_t6 188 rfl rfl
theorem cdM_clearsLabels : Cond.code yX9_clearsLabels cX9_clearsLabels 2 none ∈ xw := xw_t6 207 rfl rfl
theorem inM_clearsLabels : Cond.initialized yX9_clearsLabels.cls ∈ xw := xw_t1 11 rfl rfl
theorem imM_clearsLabels : Cond.instanceMethod yX9_clearsLabels ∈ xw := xw_t6 206 rfl rfl
theorem slM_clearsLabels : Cond.selects RX9 yX9_clearsLabels yX9_clearsLabels ∈ xw := xw_p5 14 44 rfl rfl
theorem pmM_clearsLabels : yX9_clearsLabels.cls ≠ "java/lang/invoke/MethodHandle" ∧ yX9_clearsLabels.cls ≠ "java/lang/invoke/VarHandle" ∧ (parseMethodDescriptor yX9_clearsLabels.desc).map (fun d => d.parameters.length + 1) = some 1 := by decide +kernel
theorem cdM_isPlace : Cond.code yX9_isPlace cX9_isPlace 2 (some .boolean) ∈ xw := xw_t6 215 rfl rfl
theorem inM_isPlace : Cond.initialized yX9_isPlace.cls ∈ xw := xw_t1 11 rfl rfl
theorem imM_isPlace : Cond.instanceMethod yX9_isPlace ∈ xw := xw_t6 214 rfl rfl
theorem slM_isPlace : Cond.selects RX9 yX9_isPlace yX9_isPlace ∈ xw := xw_p6 0 44 rfl rfl
theorem pmM_isPlace : yX9_isPlace.cls ≠ "java/lang/invoke/MethodHandle" ∧ yX9_isPlace.cls ≠ "java/lang/invoke/VarHandle" ∧ (parseMethodDescriptor yX9_isPlace.desc).map (fun d => d.parameters.length + 1) = some 2 := by decide +kernel
theorem cdM_isOff : Cond.code yX9_isOff cX9_isOff 4 (some .boolean) ∈ xw := xw_t6 223 rfl rfl
theorem inM_isOff : Cond.initialized yX9_isOff.cls ∈ xw := xw_t1 11 rfl rfl
theorem imM_isOff : Cond.instanceMethod yX9_isOff ∈ xw := xw_t6 222 rfl rfl
theorem slM_isOff : Cond.selects RX9 yX9_isOff yX9_isOff ∈ xw := xw_p6 2 44 rfl rfl
theorem pmM_isOff : yX9_isOff.cls ≠ "java/lang/invoke/MethodHandle" ∧ yX9_isOff.cls ≠ "java/lang/invoke/VarHandle" ∧ (parseMethodDescriptor yX9_isOff.desc).map (fun d => d.parameters.length + 1) = some 3 := by decide +kernel
theorem cdM_isOnLine : Cond.code yX9_isOnLine cX9_isOnLine 6 (some .boolean) ∈ xw := xw_t6 234 rfl rfl
theorem inM_isOnLine : Cond.initialized yX9_isOnLine.cls ∈ xw := xw_t1 11 rfl rfl
theorem imM_isOnLine : Cond.instanceMethod yX9_isOnLine ∈ xw := xw_t6 233 rfl rfl
theorem slM_isOnLine : Cond.selects RX9 yX9_isOnLine yX9_isOnLine ∈ xw := xw_p6 4 44 rfl rfl
theorem pmM_isOnLine : yX9_isOnLine.cls ≠ "java/lang/invoke/MethodHandle" ∧ yX9_isOnLine.cls ≠ "java/lang/invoke/VarHandle" ∧ (parseMethodDescriptor yX9_isOnLine.desc).map (fun d => d.parameters.length + 1) = some 3 := by decide +kernel
theorem cdM_others : Cond.code yX9_others cX9_others 7 (some .int) ∈ xw := xw_t6 238 rfl rfl
theorem inM_others : Cond.initialized yX9_others.cls ∈ xw := xw_t1 11 rfl rfl
theorem imM_others : Cond.instanceMethod yX9_others ∈ xw := xw_t6 237 rfl rfl
theorem slM_others : Cond.selects RX9 yX9_others yX9_others ∈ xw := xw_p6 5 44 rfl rfl
theorem pmM_others : yX9_others.cls ≠ "java/lang/invoke/MethodHandle" ∧ yX9_others.cls ≠ "java/lang/invoke/VarHandle" ∧ (parseMethodDescriptor yX9_others.desc).map (fun d => d.parameters.length + 1) = some 3 := by decide +kernel
theorem cdM_whyNot : Cond.code yX9_whyNot cX9_whyNot 3 (some .int) ∈ xw := xw_t6 219 rfl rfl
theorem inM_whyNot : Cond.initialized yX9_whyNot.cls ∈ xw := xw_t1 11 rfl rfl
theorem imM_whyNot : Cond.instanceMethod yX9_whyNot ∈ xw := xw_t6 218 rfl rfl
theorem slM_whyNot : Cond.selects RX9 yX9_whyNot yX9_whyNot ∈ xw := xw_p6 1 44 rfl rfl
theorem pmM_whyNot : yX9_whyNot.cls ≠ "java/lang/invoke/MethodHandle" ∧ yX9_whyNot.cls ≠ "java/lang/invoke/VarHandle" ∧ (parseMethodDescriptor yX9_whyNot.desc).map (fun d => d.parameters.length + 1) = some 3 := by decide +kernel
theorem lkM_174 : Cond.methodLink RX9 174 yX9_isOff ∈ xw := xw_t6 220 rfl rfl
theorem lkM_178 : Cond.methodLink RX9 178 yX9_isOnLine ∈ xw := xw_t6 231 rfl rfl
theorem lkM_181 : Cond.methodLink RX9 181 yX9_others ∈ xw := xw_t6 235 rfl rfl
theorem cdM_refits : Cond.code yX9_refits cX9_refits 3 (some .int) ∈ xw := xw_t6 176 rfl rfl
theorem inM_refits : Cond.initialized yX9_refits.cls ∈ xw := xw_t1 11 rfl rfl
theorem imM_refits : Cond.instanceMethod yX9_refits ∈ xw := xw_t6 175 rfl rfl
theorem slM_refits : Cond.selects RX9 yX9_refits yX9_refits ∈ xw := xw_p5 7 44 rfl rfl
theorem pmM_refits : yX9_refits.cls ≠ "java/lang/invoke/MethodHandle" ∧ yX9_refits.cls ≠ "java/lang/invoke/VarHandle" ∧ (parseMethodDescriptor yX9_refits.desc).map (fun d => d.parameters.length + 1) = some 1 := by decide +kernel
theorem lkM_184 : Cond.methodLink RX9 184 yX9_laysLabel ∈ xw := xw_t6 239 rfl rfl
theorem lkM_187 : Cond.methodLink RX9 187 yX9_labelOf ∈ xw := xw_t6 208 rfl rfl
theorem lkM_190 : Cond.methodLink RX9 190 yX9_laysLines ∈ xw := xw_t6 177 rfl rfl
theorem lkM_193 : Cond.methodLink RX9 193 yX9_clearsLabels ∈ xw := xw_t6 204 rfl rfl
theorem lkM_196 : Cond.methodLink RX9 196 yX9_isPlace ∈ xw := xw_t6 212 rfl rfl
theorem lkM_199 : Cond.methodLink RX9 199 yX9_whyNot ∈ xw := xw_t6 216 rfl rfl
theorem cdM_swaps : Cond.code yX9_swaps cX9_swaps 3 none ∈ xw := xw_t7 6 rfl rfl
theorem inM_swaps : Cond.initialized yX9_swaps.cls ∈ xw := xw_t1 11 rfl rfl
theorem imM_swaps : Cond.instanceMethod yX9_swaps ∈ xw := xw_t7 5 rfl rfl
theorem slM_swaps : Cond.selects RX9 yX9_swaps yX9_swaps ∈ xw := xw_p6 7 44 rfl rfl
theorem pmM_swaps : yX9_swaps.cls ≠ "java/lang/invoke/MethodHandle" ∧ yX9_swaps.cls ≠ "java/lang/invoke/VarHandle" ∧ (parseMethodDescriptor yX9_swaps.desc).map (fun d => d.parameters.length + 1) = some 1 := by decide +kernel
theorem cdM_remembers : Cond.code yX9_remembers cX9_remembers 2 none ∈ xw := xw_t7 10 rfl rfl
theorem inM_remembers : Cond.initialized yX9_remembers.cls ∈ xw := xw_t1 11 rfl rfl
theorem imM_remembers : Cond.instanceMethod yX9_remembers ∈ xw := xw_t7 9 rfl rfl
theorem slM_remembers : Cond.selects RX9 yX9_remembers yX9_remembers ∈ xw := xw_p6 8 44 rfl rfl
theorem pmM_remembers : yX9_remembers.cls ≠ "java/lang/invoke/MethodHandle" ∧ yX9_remembers.cls ≠ "java/lang/invoke/VarHandle" ∧ (parseMethodDescriptor yX9_remembers.desc).map (fun d => d.parameters.length + 1) = some 1 := by decide +kernel
theorem cdM_settles : Cond.code yX9_settles cX9_settles 4 (some .int) ∈ xw := xw_t6 148 rfl rfl
theorem inM_settles : Cond.initialized yX9_settles.cls ∈ xw := xw_t1 11 rfl rfl
theorem imM_settles : Cond.instanceMethod yX9_settles ∈ xw := xw_t6 147 rfl rfl
theorem slM_settles : Cond.selects RX9 yX9_settles yX9_settles ∈ xw := xw_p5 0 44 rfl rfl
theorem pmM_settles : yX9_settles.cls ≠ "java/lang/invoke/MethodHandle" ∧ yX9_settles.cls ≠ "java/lang/invoke/VarHandle" ∧ (parseMethodDescriptor yX9_settles.desc).map (fun d => d.parameters.length + 1) = some 2 := by decide +kernel
theorem lkM_327 : Cond.methodLink RX9 327 yX9_faultOf ∈ xw := xw_t6 149 rfl rfl
theorem lkM_330 : Cond.methodLink RX9 330 yX9_comesBack ∈ xw := xw_t6 169 rfl rfl
theorem lkM_333 : Cond.methodLink RX9 333 yX9_refits ∈ xw := xw_t6 173 rfl rfl
theorem lkM_337 : Cond.methodLink RX9 337 yX9_swaps ∈ xw := xw_t7 3 rfl rfl
theorem lkM_340 : Cond.methodLink RX9 340 yX9_remembers ∈ xw := xw_t7 7 rfl rfl
theorem cdM_moveBend : Cond.code yX9_moveBend cX9_moveBend 6 (some .int) ∈ xw := xw_t6 104 rfl rfl
theorem inM_moveBend : Cond.initialized yX9_moveBend.cls ∈ xw := xw_t1 11 rfl rfl
theorem imM_moveBend : Cond.instanceMethod yX9_moveBend ∈ xw := xw_t6 102 rfl rfl
theorem slM_moveBend : Cond.selects RX9 yX9_moveBend yX9_moveBend ∈ xw := xw_t6 103 rfl rfl
theorem pmM_moveBend : yX9_moveBend.cls ≠ "java/lang/invoke/MethodHandle" ∧ yX9_moveBend.cls ≠ "java/lang/invoke/VarHandle" ∧ (parseMethodDescriptor yX9_moveBend.desc).map (fun d => d.parameters.length + 1) = some 5 := by decide +kernel
theorem lkM_349 : Cond.methodLink RX9 349 yX9_moveFault ∈ xw := xw_t6 105 rfl rfl
theorem lkM_352 : Cond.methodLink RX9 352 yX9_thinks ∈ xw := xw_t6 133 rfl rfl
theorem lkM_355 : Cond.methodLink RX9 355 yX9_putsPoint ∈ xw := xw_t6 137 rfl rfl
theorem lkM_359 : Cond.methodLink RX9 359 yX9_settles ∈ xw := xw_t6 145 rfl rfl
theorem cdD_insert : Cond.code yX8_insert cX8_insert 5 (some .int) ∈ xw := xw_t3 76 rfl rfl
theorem inD_insert : Cond.initialized yX8_insert.cls ∈ xw := xw_t1 1 rfl rfl
theorem imD_insert : Cond.instanceMethod yX8_insert ∈ xw := xw_t3 74 rfl rfl
theorem slD_insert : Cond.selects RX8 yX8_insert yX8_insert ∈ xw := xw_t3 75 rfl rfl
theorem pmD_insert : yX8_insert.cls ≠ "java/lang/invoke/MethodHandle" ∧ yX8_insert.cls ≠ "java/lang/invoke/VarHandle" ∧ (parseMethodDescriptor yX8_insert.desc).map (fun d => d.parameters.length + 1) = some 5 := by decide +kernel
theorem lkD_133 : Cond.methodLink RX8 133 yX3_insertPoint ∈ xw := xw_t3 77 rfl rfl
theorem cdM_insert : Cond.code yX9_insert cX9_insert 6 (some .int) ∈ xw := xw_t7 14 rfl rfl
theorem inM_insert : Cond.initialized yX9_insert.cls ∈ xw := xw_t1 11 rfl rfl
theorem imM_insert : Cond.instanceMethod yX9_insert ∈ xw := xw_t7 12 rfl rfl
theorem slM_insert : Cond.selects RX9 yX9_insert yX9_insert ∈ xw := xw_t7 13 rfl rfl
theorem pmM_insert : yX9_insert.cls ≠ "java/lang/invoke/MethodHandle" ∧ yX9_insert.cls ≠ "java/lang/invoke/VarHandle" ∧ (parseMethodDescriptor yX9_insert.desc).map (fun d => d.parameters.length + 1) = some 5 := by decide +kernel
theorem cdLn_dropPoint : Cond.code yX3_dropPoint cX3_dropPoint 3 none ∈ xw := xw_t3 85 rfl rfl
theorem inLn_dropPoint : Cond.initialized yX3_dropPoint.cls ∈ xw := xw_t1 6 rfl rfl
theorem imLn_dropPoint : Cond.instanceMethod yX3_dropPoint ∈ xw := xw_t3 83 rfl rfl
theorem slLn_dropPoint : Cond.selects RX3 yX3_dropPoint yX3_dropPoint ∈ xw := xw_t3 84 rfl rfl
theorem pmLn_dropPoint : yX3_dropPoint.cls ≠ "java/lang/invoke/MethodHandle" ∧ yX3_dropPoint.cls ≠ "java/lang/invoke/VarHandle" ∧ (parseMethodDescriptor yX3_dropPoint.desc).map (fun d => d.parameters.length + 1) = some 2 := by decide +kernel
theorem cdD_removePoint : Cond.code yX8_removePoint cX8_removePoint 3 (some .int) ∈ xw := xw_t3 81 rfl rfl
theorem inD_removePoint : Cond.initialized yX8_removePoint.cls ∈ xw := xw_t1 1 rfl rfl
theorem imD_removePoint : Cond.instanceMethod yX8_removePoint ∈ xw := xw_t3 79 rfl rfl
theorem slD_removePoint : Cond.selects RX8 yX8_removePoint yX8_removePoint ∈ xw := xw_t3 80 rfl rfl
theorem pmD_removePoint : yX8_removePoint.cls ≠ "java/lang/invoke/MethodHandle" ∧ yX8_removePoint.cls ≠ "java/lang/invoke/VarHandle" ∧ (parseMethodDescriptor yX8_removePoint.desc).map (fun d => d.parameters.length + 1) = some 3 := by decide +kernel
theorem lkD_139 : Cond.methodLink RX8 139 yX3_dropPoint ∈ xw := xw_t3 82 rfl rfl
theorem cdM_removePoint : Cond.code yX9_removePoint cX9_removePoint 4 (some .int) ∈ xw := xw_t7 18 rfl rfl
theorem inM_removePoint : Cond.initialized yX9_removePoint.cls ∈ xw := xw_t1 11 rfl rfl
theorem imM_removePoint : Cond.instanceMethod yX9_removePoint ∈ xw := xw_t7 16 rfl rfl
theorem slM_removePoint : Cond.selects RX9 yX9_removePoint yX9_removePoint ∈ xw := xw_t7 17 rfl rfl
theorem pmM_removePoint : yX9_removePoint.cls ≠ "java/lang/invoke/MethodHandle" ∧ yX9_removePoint.cls ≠ "java/lang/invoke/VarHandle" ∧ (parseMethodDescriptor yX9_removePoint.desc).map (fun d => d.parameters.length + 1) = some 3 := by decide +kernel
theorem cdLn_turnRound : Cond.code yX3_turnRound cX3_turnRound 5 none ∈ xw := xw_t3 93 rfl rfl
theorem inLn_turnRound : Cond.initialized yX3_turnRound.cls ∈ xw := xw_t1 6 rfl rfl
theorem imLn_turnRound : Cond.instanceMethod yX3_turnRound ∈ xw := xw_t3 91 rfl rfl
theorem slLn_turnRound : Cond.selects RX3 yX3_turnRound yX3_turnRound ∈ xw := xw_t3 92 rfl rfl
theorem pmLn_turnRound : yX3_turnRound.cls ≠ "java/lang/invoke/MethodHandle" ∧ yX3_turnRound.cls ≠ "java/lang/invoke/VarHandle" ∧ (parseMethodDescriptor yX3_turnRound.desc).map (fun d => d.parameters.length + 1) = some 1 := by decide +kernel
theorem cdD_reverse : Cond.code yX8_reverse cX8_reverse 2 (some .int) ∈ xw := xw_t3 89 rfl rfl
theorem inD_reverse : Cond.initialized yX8_reverse.cls ∈ xw := xw_t1 1 rfl rfl
theorem imD_reverse : Cond.instanceMethod yX8_reverse ∈ xw := xw_t3 87 rfl rfl
theorem slD_reverse : Cond.selects RX8 yX8_reverse yX8_reverse ∈ xw := xw_t3 88 rfl rfl
theorem pmD_reverse : yX8_reverse.cls ≠ "java/lang/invoke/MethodHandle" ∧ yX8_reverse.cls ≠ "java/lang/invoke/VarHandle" ∧ (parseMethodDescriptor yX8_reverse.desc).map (fun d => d.parameters.length + 1) = some 2 := by decide +kernel
theorem lkD_142 : Cond.methodLink RX8 142 yX3_turnRound ∈ xw := xw_t3 90 rfl rfl
theorem cdM_reverse : Cond.code yX9_reverse cX9_reverse 6 (some .int) ∈ xw := xw_t7 22 rfl rfl
theorem inM_reverse : Cond.initialized yX9_reverse.cls ∈ xw := xw_t1 11 rfl rfl
theorem imM_reverse : Cond.instanceMethod yX9_reverse ∈ xw := xw_t7 20 rfl rfl
theorem slM_reverse : Cond.selects RX9 yX9_reverse yX9_reverse ∈ xw := xw_t7 21 rfl rfl
theorem pmM_reverse : yX9_reverse.cls ≠ "java/lang/invoke/MethodHandle" ∧ yX9_reverse.cls ≠ "java/lang/invoke/VarHandle" ∧ (parseMethodDescriptor yX9_reverse.desc).map (fun d => d.parameters.length + 1) = some 2 := by decide +kernel
theorem cdD_setStops : Cond.code yX8_setStops cX8_setStops 3 (some .int) ∈ xw := xw_t3 97 rfl rfl
theorem inD_setStops : Cond.initialized yX8_setStops.cls ∈ xw := xw_t1 1 rfl rfl
theorem imD_setStops : Cond.instanceMethod yX8_setStops ∈ xw := xw_t3 95 rfl rfl
theorem slD_setStops : Cond.selects RX8 yX8_setStops yX8_setStops ∈ xw := xw_t3 96 rfl rfl
theorem pmD_setStops : yX8_setStops.cls ≠ "java/lang/invoke/MethodHandle" ∧ yX8_setStops.cls ≠ "java/lang/invoke/VarHandle" ∧ (parseMethodDescriptor yX8_setStops.desc).map (fun d => d.parameters.length + 1) = some 3 := by decide +kernel
theorem cdM_becomes : Cond.code yX9_becomes cX9_becomes 4 (some .int) ∈ xw := xw_t7 32 rfl rfl
theorem inM_becomes : Cond.initialized yX9_becomes.cls ∈ xw := xw_t1 11 rfl rfl
theorem imM_becomes : Cond.instanceMethod yX9_becomes ∈ xw := xw_t7 31 rfl rfl
theorem slM_becomes : Cond.selects RX9 yX9_becomes yX9_becomes ∈ xw := xw_p6 9 44 rfl rfl
theorem pmM_becomes : yX9_becomes.cls ≠ "java/lang/invoke/MethodHandle" ∧ yX9_becomes.cls ≠ "java/lang/invoke/VarHandle" ∧ (parseMethodDescriptor yX9_becomes.desc).map (fun d => d.parameters.length + 1) = some 4 := by decide +kernel
theorem cdM_setStops : Cond.code yX9_setStops cX9_setStops 3 (some .int) ∈ xw := xw_t7 26 rfl rfl
theorem inM_setStops : Cond.initialized yX9_setStops.cls ∈ xw := xw_t1 11 rfl rfl
theorem imM_setStops : Cond.instanceMethod yX9_setStops ∈ xw := xw_t7 24 rfl rfl
theorem slM_setStops : Cond.selects RX9 yX9_setStops yX9_setStops ∈ xw := xw_t7 25 rfl rfl
theorem pmM_setStops : yX9_setStops.cls ≠ "java/lang/invoke/MethodHandle" ∧ yX9_setStops.cls ≠ "java/lang/invoke/VarHandle" ∧ (parseMethodDescriptor yX9_setStops.desc).map (fun d => d.parameters.length + 1) = some 3 := by decide +kernel
theorem lkM_366 : Cond.methodLink RX9 366 yX9_becomes ∈ xw := xw_t7 29 rfl rfl
theorem cdD_setSize : Cond.code yX8_setSize cX8_setSize 3 (some .int) ∈ xw := xw_t3 101 rfl rfl
theorem inD_setSize : Cond.initialized yX8_setSize.cls ∈ xw := xw_t1 1 rfl rfl
theorem imD_setSize : Cond.instanceMethod yX8_setSize ∈ xw := xw_t3 99 rfl rfl
theorem slD_setSize : Cond.selects RX8 yX8_setSize yX8_setSize ∈ xw := xw_t3 100 rfl rfl
theorem pmD_setSize : yX8_setSize.cls ≠ "java/lang/invoke/MethodHandle" ∧ yX8_setSize.cls ≠ "java/lang/invoke/VarHandle" ∧ (parseMethodDescriptor yX8_setSize.desc).map (fun d => d.parameters.length + 1) = some 3 := by decide +kernel
theorem cdM_setSize : Cond.code yX9_setSize cX9_setSize 3 (some .int) ∈ xw := xw_t7 36 rfl rfl
theorem inM_setSize : Cond.initialized yX9_setSize.cls ∈ xw := xw_t1 11 rfl rfl
theorem imM_setSize : Cond.instanceMethod yX9_setSize ∈ xw := xw_t7 34 rfl rfl
theorem slM_setSize : Cond.selects RX9 yX9_setSize yX9_setSize ∈ xw := xw_t7 35 rfl rfl
theorem pmM_setSize : yX9_setSize.cls ≠ "java/lang/invoke/MethodHandle" ∧ yX9_setSize.cls ≠ "java/lang/invoke/VarHandle" ∧ (parseMethodDescriptor yX9_setSize.desc).map (fun d => d.parameters.length + 1) = some 3 := by decide +kernel
theorem cdD_isStation : Cond.code yX8_isStation cX8_isStation 3 (some .boolean) ∈ xw := xw_t3 109 rfl rfl
theorem inD_isStation : Cond.initialized yX8_isStation.cls ∈ xw := xw_t1 1 rfl rfl
theorem imD_isStation : Cond.instanceMethod yX8_isStation ∈ xw := xw_t3 108 rfl rfl
theorem slD_isStation : Cond.selects RX8 yX8_isStation yX8_isStation ∈ xw := xw_p2 4 12 rfl rfl
theorem pmD_isStation : yX8_isStation.cls ≠ "java/lang/invoke/MethodHandle" ∧ yX8_isStation.cls ≠ "java/lang/invoke/VarHandle" ∧ (parseMethodDescriptor yX8_isStation.desc).map (fun d => d.parameters.length + 1) = some 3 := by decide +kernel
theorem cdD_isPosition : Cond.code yX8_isPosition cX8_isPosition 1 (some .boolean) ∈ xw := xw_t3 112 rfl rfl
theorem inD_isPosition : Cond.initialized yX8_isPosition.cls ∈ xw := xw_t1 1 rfl rfl
theorem imD_isPosition : Cond.static yX8_isPosition ∈ xw := xw_t3 111 rfl rfl
theorem pmD_isPosition : yX8_isPosition.cls ≠ "java/lang/invoke/MethodHandle" ∧ yX8_isPosition.cls ≠ "java/lang/invoke/VarHandle" ∧ (parseMethodDescriptor yX8_isPosition.desc).map (fun d => d.parameters.length) = some 1 := by decide +kernel
theorem cdB_stationCell : Cond.code yX0_stationCell cX0_stationCell 4 (some .int) ∈ xw := xw_t3 116 rfl rfl
theorem inB_stationCell : Cond.initialized yX0_stationCell.cls ∈ xw := xw_t1 8 rfl rfl
theorem imB_stationCell : Cond.instanceMethod yX0_stationCell ∈ xw := xw_t3 114 rfl rfl
theorem slB_stationCell : Cond.selects RX0 yX0_stationCell yX0_stationCell ∈ xw := xw_t3 115 rfl rfl
theorem pmB_stationCell : yX0_stationCell.cls ≠ "java/lang/invoke/MethodHandle" ∧ yX0_stationCell.cls ≠ "java/lang/invoke/VarHandle" ∧ (parseMethodDescriptor yX0_stationCell.desc).map (fun d => d.parameters.length + 1) = some 3 := by decide +kernel
theorem cdLb_rankOf : Cond.code yX2_rankOf cX2_rankOf 3 (some .int) ∈ xw := xw_t3 124 rfl rfl
theorem inLb_rankOf : Cond.initialized yX2_rankOf.cls ∈ xw := xw_t1 5 rfl rfl
theorem imLb_rankOf : Cond.instanceMethod yX2_rankOf ∈ xw := xw_t3 122 rfl rfl
theorem slLb_rankOf : Cond.selects RX2 yX2_rankOf yX2_rankOf ∈ xw := xw_t3 123 rfl rfl
theorem pmLb_rankOf : yX2_rankOf.cls ≠ "java/lang/invoke/MethodHandle" ∧ yX2_rankOf.cls ≠ "java/lang/invoke/VarHandle" ∧ (parseMethodDescriptor yX2_rankOf.desc).map (fun d => d.parameters.length + 1) = some 2 := by decide +kernel
theorem cdLb_positionOf : Cond.code yX2_positionOf cX2_positionOf 3 (some .int) ∈ xw := xw_t3 120 rfl rfl
theorem inLb_positionOf : Cond.initialized yX2_positionOf.cls ∈ xw := xw_t1 5 rfl rfl
theorem imLb_positionOf : Cond.instanceMethod yX2_positionOf ∈ xw := xw_t3 118 rfl rfl
theorem slLb_positionOf : Cond.selects RX2 yX2_positionOf yX2_positionOf ∈ xw := xw_t3 119 rfl rfl
theorem pmLb_positionOf : yX2_positionOf.cls ≠ "java/lang/invoke/MethodHandle" ∧ yX2_positionOf.cls ≠ "java/lang/invoke/VarHandle" ∧ (parseMethodDescriptor yX2_positionOf.desc).map (fun d => d.parameters.length + 1) = some 2 := by decide +kernel
theorem lkLb_28 : Cond.methodLink RX2 28 yX2_rankOf ∈ xw := xw_t3 121 rfl rfl
theorem cdLb_drop : Cond.code yX2_drop cX2_drop 4 none ∈ xw := xw_t3 137 rfl rfl
theorem inLb_drop : Cond.initialized yX2_drop.cls ∈ xw := xw_t1 5 rfl rfl
theorem imLb_drop : Cond.instanceMethod yX2_drop ∈ xw := xw_t3 135 rfl rfl
theorem slLb_drop : Cond.selects RX2 yX2_drop yX2_drop ∈ xw := xw_t3 136 rfl rfl
theorem pmLb_drop : yX2_drop.cls ≠ "java/lang/invoke/MethodHandle" ∧ yX2_drop.cls ≠ "java/lang/invoke/VarHandle" ∧ (parseMethodDescriptor yX2_drop.desc).map (fun d => d.parameters.length + 1) = some 2 := by decide +kernel
theorem cdD_takeLabel : Cond.code yX8_takeLabel cX8_takeLabel 3 none ∈ xw := xw_t3 133 rfl rfl
theorem inD_takeLabel : Cond.initialized yX8_takeLabel.cls ∈ xw := xw_t1 1 rfl rfl
theorem imD_takeLabel : Cond.instanceMethod yX8_takeLabel ∈ xw := xw_t3 132 rfl rfl
theorem slD_takeLabel : Cond.selects RX8 yX8_takeLabel yX8_takeLabel ∈ xw := xw_p2 6 12 rfl rfl
theorem pmD_takeLabel : yX8_takeLabel.cls ≠ "java/lang/invoke/MethodHandle" ∧ yX8_takeLabel.cls ≠ "java/lang/invoke/VarHandle" ∧ (parseMethodDescriptor yX8_takeLabel.desc).map (fun d => d.parameters.length + 1) = some 2 := by decide +kernel
theorem lkD_165 : Cond.methodLink RX8 165 yX2_positionOf ∈ xw := xw_t3 117 rfl rfl
theorem lkD_362 : Cond.methodLink RX8 362 yX0_paint ∈ xw := xw_t3 138 rfl rfl
theorem lkD_365 : Cond.methodLink RX8 365 yX2_drop ∈ xw := xw_t3 134 rfl rfl
theorem cdLb_put : Cond.code yX2_put cX2_put 5 none ∈ xw := xw_t3 142 rfl rfl
theorem inLb_put : Cond.initialized yX2_put.cls ∈ xw := xw_t1 5 rfl rfl
theorem imLb_put : Cond.instanceMethod yX2_put ∈ xw := xw_t3 140 rfl rfl
theorem slLb_put : Cond.selects RX2 yX2_put yX2_put ∈ xw := xw_t3 141 rfl rfl
theorem pmLb_put : yX2_put.cls ≠ "java/lang/invoke/MethodHandle" ∧ yX2_put.cls ≠ "java/lang/invoke/VarHandle" ∧ (parseMethodDescriptor yX2_put.desc).map (fun d => d.parameters.length + 1) = some 3 := by decide +kernel
theorem cdD_putLabel : Cond.code yX8_putLabel cX8_putLabel 3 none ∈ xw := xw_t3 129 rfl rfl
theorem inD_putLabel : Cond.initialized yX8_putLabel.cls ∈ xw := xw_t1 1 rfl rfl
theorem imD_putLabel : Cond.instanceMethod yX8_putLabel ∈ xw := xw_t3 128 rfl rfl
theorem slD_putLabel : Cond.selects RX8 yX8_putLabel yX8_putLabel ∈ xw := xw_p2 5 12 rfl rfl
theorem pmD_putLabel : yX8_putLabel.cls ≠ "java/lang/invoke/MethodHandle" ∧ yX8_putLabel.cls ≠ "java/lang/invoke/VarHandle" ∧ (parseMethodDescriptor yX8_putLabel.desc).map (fun d => d.parameters.length + 1) = some 3 := by decide +kernel
theorem lkD_183 : Cond.methodLink RX8 183 yX8_takeLabel ∈ xw := xw_t3 130 rfl rfl
theorem lkD_359 : Cond.methodLink RX8 359 yX2_put ∈ xw := xw_t3 139 rfl rfl
theorem cdD_label : Cond.code yX8_label cX8_label 6 (some .int) ∈ xw := xw_t3 105 rfl rfl
theorem inD_label : Cond.initialized yX8_label.cls ∈ xw := xw_t1 1 rfl rfl
theorem imD_label : Cond.instanceMethod yX8_label ∈ xw := xw_t3 103 rfl rfl
theorem slD_label : Cond.selects RX8 yX8_label yX8_label ∈ xw := xw_t3 104 rfl rfl
theorem pmD_label : yX8_label.cls ≠ "java/lang/invoke/MethodHandle" ∧ yX8_label.cls ≠ "java/lang/invoke/VarHandle" ∧ (parseMethodDescriptor yX8_label.desc).map (fun d => d.parameters.length + 1) = some 4 := by decide +kernel
theorem lkD_151 : Cond.methodLink RX8 151 yX8_isStation ∈ xw := xw_t3 106 rfl rfl
theorem lkD_154 : Cond.methodLink RX8 154 yX8_isPosition ∈ xw ∨ ∃ host, Cond.methodLinkNest RX8 154 yX8_isPosition host ∈ xnw := Or.inl (xw_t3 110 rfl rfl)
theorem lkD_157 : Cond.methodLink RX8 157 yX0_stationCell ∈ xw := xw_t3 113 rfl rfl
theorem lkD_170 : Cond.methodLink RX8 170 yX0_reason ∈ xw := xw_t3 125 rfl rfl
theorem lkD_176 : Cond.methodLink RX8 176 yX8_putLabel ∈ xw := xw_t3 126 rfl rfl
theorem cdM_isStation : Cond.code yX9_isStation cX9_isStation 3 (some .boolean) ∈ xw := xw_t7 45 rfl rfl
theorem inM_isStation : Cond.initialized yX9_isStation.cls ∈ xw := xw_t1 11 rfl rfl
theorem imM_isStation : Cond.instanceMethod yX9_isStation ∈ xw := xw_t7 44 rfl rfl
theorem slM_isStation : Cond.selects RX9 yX9_isStation yX9_isStation ∈ xw := xw_p6 10 44 rfl rfl
theorem pmM_isStation : yX9_isStation.cls ≠ "java/lang/invoke/MethodHandle" ∧ yX9_isStation.cls ≠ "java/lang/invoke/VarHandle" ∧ (parseMethodDescriptor yX9_isStation.desc).map (fun d => d.parameters.length + 1) = some 3 := by decide +kernel
theorem cdM_isPosition : Cond.code yX9_isPosition cX9_isPosition 1 (some .boolean) ∈ xw := xw_t7 48 rfl rfl
theorem inM_isPosition : Cond.initialized yX9_isPosition.cls ∈ xw := xw_t1 11 rfl rfl
theorem imM_isPosition : Cond.static yX9_isPosition ∈ xw := xw_t7 47 rfl rfl
theorem pmM_isPosition : yX9_isPosition.cls ≠ "java/lang/invoke/MethodHandle" ∧ yX9_isPosition.cls ≠ "java/lang/invoke/VarHandle" ∧ (parseMethodDescriptor yX9_isPosition.desc).map (fun d => d.parameters.length) = some 1 := by decide +kernel
theorem cdM_lays : Cond.code yX9_lays cX9_lays 2 none ∈ xw := xw_t7 53 rfl rfl
theorem inM_lays : Cond.initialized yX9_lays.cls ∈ xw := xw_t1 11 rfl rfl
theorem imM_lays : Cond.instanceMethod yX9_lays ∈ xw := xw_t7 52 rfl rfl
theorem slM_lays : Cond.selects RX9 yX9_lays yX9_lays ∈ xw := xw_p6 11 44 rfl rfl
theorem pmM_lays : yX9_lays.cls ≠ "java/lang/invoke/MethodHandle" ∧ yX9_lays.cls ≠ "java/lang/invoke/VarHandle" ∧ (parseMethodDescriptor yX9_lays.desc).map (fun d => d.parameters.length + 1) = some 1 := by decide +kernel
theorem cdM_label : Cond.code yX9_label cX9_label 6 (some .int) ∈ xw := xw_t7 41 rfl rfl
theorem inM_label : Cond.initialized yX9_label.cls ∈ xw := xw_t1 11 rfl rfl
theorem imM_label : Cond.instanceMethod yX9_label ∈ xw := xw_t7 39 rfl rfl
theorem slM_label : Cond.selects RX9 yX9_label yX9_label ∈ xw := xw_t7 40 rfl rfl
theorem pmM_label : yX9_label.cls ≠ "java/lang/invoke/MethodHandle" ∧ yX9_label.cls ≠ "java/lang/invoke/VarHandle" ∧ (parseMethodDescriptor yX9_label.desc).map (fun d => d.parameters.length + 1) = some 4 := by decide +kernel
theorem lkM_374 : Cond.methodLink RX9 374 yX9_isStation ∈ xw := xw_t7 42 rfl rfl
theorem lkM_377 : Cond.methodLink RX9 377 yX9_isPosition ∈ xw ∨ ∃ host, Cond.methodLinkNest RX9 377 yX9_isPosition host ∈ xnw := Or.inl (xw_t7 46 rfl rfl)
theorem lkM_380 : Cond.methodLink RX9 380 yX9_lays ∈ xw := xw_t7 50 rfl rfl
theorem cdD_unlabel : Cond.code yX8_unlabel cX8_unlabel 5 (some .int) ∈ xw := xw_t3 146 rfl rfl
theorem inD_unlabel : Cond.initialized yX8_unlabel.cls ∈ xw := xw_t1 1 rfl rfl
theorem imD_unlabel : Cond.instanceMethod yX8_unlabel ∈ xw := xw_t3 144 rfl rfl
theorem slD_unlabel : Cond.selects RX8 yX8_unlabel yX8_unlabel ∈ xw := xw_t3 145 rfl rfl
theorem pmD_unlabel : yX8_unlabel.cls ≠ "java/lang/invoke/MethodHandle" ∧ yX8_unlabel.cls ≠ "java/lang/invoke/VarHandle" ∧ (parseMethodDescriptor yX8_unlabel.desc).map (fun d => d.parameters.length + 1) = some 3 := by decide +kernel
theorem cdM_unlabel : Cond.code yX9_unlabel cX9_unlabel 5 (some .int) ∈ xw := xw_t7 57 rfl rfl
theorem inM_unlabel : Cond.initialized yX9_unlabel.cls ∈ xw := xw_t1 11 rfl rfl
theorem imM_unlabel : Cond.instanceMethod yX9_unlabel ∈ xw := xw_t7 55 rfl rfl
theorem slM_unlabel : Cond.selects RX9 yX9_unlabel yX9_unlabel ∈ xw := xw_t7 56 rfl rfl
theorem pmM_unlabel : yX9_unlabel.cls ≠ "java/lang/invoke/MethodHandle" ∧ yX9_unlabel.cls ≠ "java/lang/invoke/VarHandle" ∧ (parseMethodDescriptor yX9_unlabel.desc).map (fun d => d.parameters.length + 1) = some 3 := by decide +kernel
theorem cdB_firstFit : Cond.code yX0_firstFit cX0_firstFit 3 (some .int) ∈ xw := xw_t3 154 rfl rfl
theorem inB_firstFit : Cond.initialized yX0_firstFit.cls ∈ xw := xw_t1 8 rfl rfl
theorem imB_firstFit : Cond.instanceMethod yX0_firstFit ∈ xw := xw_t3 152 rfl rfl
theorem slB_firstFit : Cond.selects RX0 yX0_firstFit yX0_firstFit ∈ xw := xw_t3 153 rfl rfl
theorem pmB_firstFit : yX0_firstFit.cls ≠ "java/lang/invoke/MethodHandle" ∧ yX0_firstFit.cls ≠ "java/lang/invoke/VarHandle" ∧ (parseMethodDescriptor yX0_firstFit.desc).map (fun d => d.parameters.length + 1) = some 2 := by decide +kernel
theorem lkB_168 : Cond.methodLink RX0 168 yX0_reason ∈ xw := xw_t3 155 rfl rfl
theorem cdB_onlyLabelUnder : Cond.code yX0_onlyLabelUnder cX0_onlyLabelUnder 6 (some .int) ∈ xw := xw_t3 163 rfl rfl
theorem inB_onlyLabelUnder : Cond.initialized yX0_onlyLabelUnder.cls ∈ xw := xw_t1 8 rfl rfl
theorem imB_onlyLabelUnder : Cond.instanceMethod yX0_onlyLabelUnder ∈ xw := xw_t3 161 rfl rfl
theorem slB_onlyLabelUnder : Cond.selects RX0 yX0_onlyLabelUnder yX0_onlyLabelUnder ∈ xw := xw_t3 162 rfl rfl
theorem pmB_onlyLabelUnder : yX0_onlyLabelUnder.cls ≠ "java/lang/invoke/MethodHandle" ∧ yX0_onlyLabelUnder.cls ≠ "java/lang/invoke/VarHandle" ∧ (parseMethodDescriptor yX0_onlyLabelUnder.desc).map (fun d => d.parameters.length + 1) = some 3 := by decide +kernel
theorem cdD_refugeBeside : Cond.code yX8_refugeBeside cX8_refugeBeside 6 (some .int) ∈ xw := xw_t3 167 rfl rfl
theorem inD_refugeBeside : Cond.initialized yX8_refugeBeside.cls ∈ xw := xw_t1 1 rfl rfl
theorem imD_refugeBeside : Cond.instanceMethod yX8_refugeBeside ∈ xw := xw_t3 166 rfl rfl
theorem slD_refugeBeside : Cond.selects RX8 yX8_refugeBeside yX8_refugeBeside ∈ xw := xw_p2 8 12 rfl rfl
theorem pmD_refugeBeside : yX8_refugeBeside.cls ≠ "java/lang/invoke/MethodHandle" ∧ yX8_refugeBeside.cls ≠ "java/lang/invoke/VarHandle" ∧ (parseMethodDescriptor yX8_refugeBeside.desc).map (fun d => d.parameters.length + 1) = some 4 := by decide +kernel
theorem lkD_186 : Cond.methodLink RX8 186 yX0_firstFit ∈ xw := xw_t3 151 rfl rfl
theorem cdD_pushAside : Cond.code yX8_pushAside cX8_pushAside 5 (some .int) ∈ xw := xw_t3 159 rfl rfl
theorem inD_pushAside : Cond.initialized yX8_pushAside.cls ∈ xw := xw_t1 1 rfl rfl
theorem imD_pushAside : Cond.instanceMethod yX8_pushAside ∈ xw := xw_t3 158 rfl rfl
theorem slD_pushAside : Cond.selects RX8 yX8_pushAside yX8_pushAside ∈ xw := xw_p2 7 12 rfl rfl
theorem pmD_pushAside : yX8_pushAside.cls ≠ "java/lang/invoke/MethodHandle" ∧ yX8_pushAside.cls ≠ "java/lang/invoke/VarHandle" ∧ (parseMethodDescriptor yX8_pushAside.desc).map (fun d => d.parameters.length + 1) = some 2 := by decide +kernel
theorem lkD_368 : Cond.methodLink RX8 368 yX0_onlyLabelUnder ∈ xw := xw_t3 160 rfl rfl
theorem lkD_371 : Cond.methodLink RX8 371 yX8_refugeBeside ∈ xw := xw_t3 164 rfl rfl
theorem cdD_dodge : Cond.code yX8_dodge cX8_dodge 5 (some .int) ∈ xw := xw_t3 150 rfl rfl
theorem inD_dodge : Cond.initialized yX8_dodge.cls ∈ xw := xw_t1 1 rfl rfl
theorem imD_dodge : Cond.instanceMethod yX8_dodge ∈ xw := xw_t3 148 rfl rfl
theorem slD_dodge : Cond.selects RX8 yX8_dodge yX8_dodge ∈ xw := xw_t3 149 rfl rfl
theorem pmD_dodge : yX8_dodge.cls ≠ "java/lang/invoke/MethodHandle" ∧ yX8_dodge.cls ≠ "java/lang/invoke/VarHandle" ∧ (parseMethodDescriptor yX8_dodge.desc).map (fun d => d.parameters.length + 1) = some 3 := by decide +kernel
theorem lkD_189 : Cond.methodLink RX8 189 yX8_pushAside ∈ xw := xw_t3 156 rfl rfl
theorem cdM_firstFree : Cond.code yX9_firstFree cX9_firstFree 3 (some .int) ∈ xw := xw_t7 65 rfl rfl
theorem inM_firstFree : Cond.initialized yX9_firstFree.cls ∈ xw := xw_t1 11 rfl rfl
theorem imM_firstFree : Cond.instanceMethod yX9_firstFree ∈ xw := xw_t7 64 rfl rfl
theorem slM_firstFree : Cond.selects RX9 yX9_firstFree yX9_firstFree ∈ xw := xw_p6 12 44 rfl rfl
theorem pmM_firstFree : yX9_firstFree.cls ≠ "java/lang/invoke/MethodHandle" ∧ yX9_firstFree.cls ≠ "java/lang/invoke/VarHandle" ∧ (parseMethodDescriptor yX9_firstFree.desc).map (fun d => d.parameters.length + 1) = some 2 := by decide +kernel
theorem cdM_gets : Cond.code yX9_gets cX9_gets 3 none ∈ xw := xw_t7 69 rfl rfl
theorem inM_gets : Cond.initialized yX9_gets.cls ∈ xw := xw_t1 11 rfl rfl
theorem imM_gets : Cond.instanceMethod yX9_gets ∈ xw := xw_t7 68 rfl rfl
theorem slM_gets : Cond.selects RX9 yX9_gets yX9_gets ∈ xw := xw_p6 13 44 rfl rfl
theorem pmM_gets : yX9_gets.cls ≠ "java/lang/invoke/MethodHandle" ∧ yX9_gets.cls ≠ "java/lang/invoke/VarHandle" ∧ (parseMethodDescriptor yX9_gets.desc).map (fun d => d.parameters.length + 1) = some 3 := by decide +kernel
theorem cdM_loses : Cond.code yX9_loses cX9_loses 2 none ∈ xw := xw_t7 77 rfl rfl
theorem inM_loses : Cond.initialized yX9_loses.cls ∈ xw := xw_t1 11 rfl rfl
theorem imM_loses : Cond.instanceMethod yX9_loses ∈ xw := xw_t7 76 rfl rfl
theorem slM_loses : Cond.selects RX9 yX9_loses yX9_loses ∈ xw := xw_p6 15 44 rfl rfl
theorem pmM_loses : yX9_loses.cls ≠ "java/lang/invoke/MethodHandle" ∧ yX9_loses.cls ≠ "java/lang/invoke/VarHandle" ∧ (parseMethodDescriptor yX9_loses.desc).map (fun d => d.parameters.length + 1) = some 2 := by decide +kernel
theorem cdM_makesWay : Cond.code yX9_makesWay cX9_makesWay 6 (some .int) ∈ xw := xw_t7 73 rfl rfl
theorem inM_makesWay : Cond.initialized yX9_makesWay.cls ∈ xw := xw_t1 11 rfl rfl
theorem imM_makesWay : Cond.instanceMethod yX9_makesWay ∈ xw := xw_t7 72 rfl rfl
theorem slM_makesWay : Cond.selects RX9 yX9_makesWay yX9_makesWay ∈ xw := xw_p6 14 44 rfl rfl
theorem pmM_makesWay : yX9_makesWay.cls ≠ "java/lang/invoke/MethodHandle" ∧ yX9_makesWay.cls ≠ "java/lang/invoke/VarHandle" ∧ (parseMethodDescriptor yX9_makesWay.desc).map (fun d => d.parameters.length + 1) = some 3 := by decide +kernel
theorem lkM_202 : Cond.methodLink RX9 202 yX9_firstFree ∈ xw := xw_t7 62 rfl rfl
theorem lkM_205 : Cond.methodLink RX9 205 yX9_gets ∈ xw := xw_t7 66 rfl rfl
theorem lkM_383 : Cond.methodLink RX9 383 yX9_loses ∈ xw := xw_t7 74 rfl rfl
theorem cdM_dodge : Cond.code yX9_dodge cX9_dodge 6 (some .int) ∈ xw := xw_t7 61 rfl rfl
theorem inM_dodge : Cond.initialized yX9_dodge.cls ∈ xw := xw_t1 11 rfl rfl
theorem imM_dodge : Cond.instanceMethod yX9_dodge ∈ xw := xw_t7 59 rfl rfl
theorem slM_dodge : Cond.selects RX9 yX9_dodge yX9_dodge ∈ xw := xw_t7 60 rfl rfl
theorem pmM_dodge : yX9_dodge.cls ≠ "java/lang/invoke/MethodHandle" ∧ yX9_dodge.cls ≠ "java/lang/invoke/VarHandle" ∧ (parseMethodDescriptor yX9_dodge.desc).map (fun d => d.parameters.length + 1) = some 3 := by decide +kernel
theorem lkM_386 : Cond.methodLink RX9 386 yX9_makesWay ∈ xw := xw_t7 70 rfl rfl
theorem cdD_wantsLabel : Cond.code yX8_wantsLabel cX8_wantsLabel 2 (some .boolean) ∈ xw := xw_t3 179 rfl rfl
theorem inD_wantsLabel : Cond.initialized yX8_wantsLabel.cls ∈ xw := xw_t1 1 rfl rfl
theorem imD_wantsLabel : Cond.instanceMethod yX8_wantsLabel ∈ xw := xw_t3 178 rfl rfl
theorem slD_wantsLabel : Cond.selects RX8 yX8_wantsLabel yX8_wantsLabel ∈ xw := xw_p2 10 12 rfl rfl
theorem pmD_wantsLabel : yX8_wantsLabel.cls ≠ "java/lang/invoke/MethodHandle" ∧ yX8_wantsLabel.cls ≠ "java/lang/invoke/VarHandle" ∧ (parseMethodDescriptor yX8_wantsLabel.desc).map (fun d => d.parameters.length + 1) = some 2 := by decide +kernel
theorem cdD_labelPlaces : Cond.code yX8_labelPlaces cX8_labelPlaces 4 (some .int) ∈ xw := xw_t3 175 rfl rfl
theorem inD_labelPlaces : Cond.initialized yX8_labelPlaces.cls ∈ xw := xw_t1 1 rfl rfl
theorem imD_labelPlaces : Cond.instanceMethod yX8_labelPlaces ∈ xw := xw_t3 174 rfl rfl
theorem slD_labelPlaces : Cond.selects RX8 yX8_labelPlaces yX8_labelPlaces ∈ xw := xw_p2 9 12 rfl rfl
theorem pmD_labelPlaces : yX8_labelPlaces.cls ≠ "java/lang/invoke/MethodHandle" ∧ yX8_labelPlaces.cls ≠ "java/lang/invoke/VarHandle" ∧ (parseMethodDescriptor yX8_labelPlaces.desc).map (fun d => d.parameters.length + 1) = some 1 := by decide +kernel
theorem lkD_317 : Cond.methodLink RX8 317 yX8_wantsLabel ∈ xw := xw_t3 176 rfl rfl
theorem cdD_labelAll : Cond.code yX8_labelAll cX8_labelAll 1 (some .int) ∈ xw := xw_t3 171 rfl rfl
theorem inD_labelAll : Cond.initialized yX8_labelAll.cls ∈ xw := xw_t1 1 rfl rfl
theorem imD_labelAll : Cond.instanceMethod yX8_labelAll ∈ xw := xw_t3 169 rfl rfl
theorem slD_labelAll : Cond.selects RX8 yX8_labelAll yX8_labelAll ∈ xw := xw_t3 170 rfl rfl
theorem pmD_labelAll : yX8_labelAll.cls ≠ "java/lang/invoke/MethodHandle" ∧ yX8_labelAll.cls ≠ "java/lang/invoke/VarHandle" ∧ (parseMethodDescriptor yX8_labelAll.desc).map (fun d => d.parameters.length + 1) = some 1 := by decide +kernel
theorem lkD_192 : Cond.methodLink RX8 192 yX8_labelPlaces ∈ xw := xw_t3 172 rfl rfl
theorem cdM_labels : Cond.code yX9_labels cX9_labels 4 (some .int) ∈ xw := xw_t7 85 rfl rfl
theorem inM_labels : Cond.initialized yX9_labels.cls ∈ xw := xw_t1 11 rfl rfl
theorem imM_labels : Cond.instanceMethod yX9_labels ∈ xw := xw_t7 84 rfl rfl
theorem slM_labels : Cond.selects RX9 yX9_labels yX9_labels ∈ xw := xw_p7 0 44 rfl rfl
theorem pmM_labels : yX9_labels.cls ≠ "java/lang/invoke/MethodHandle" ∧ yX9_labels.cls ≠ "java/lang/invoke/VarHandle" ∧ (parseMethodDescriptor yX9_labels.desc).map (fun d => d.parameters.length + 1) = some 1 := by decide +kernel
theorem cdM_labelAll : Cond.code yX9_labelAll cX9_labelAll 1 (some .int) ∈ xw := xw_t7 81 rfl rfl
theorem inM_labelAll : Cond.initialized yX9_labelAll.cls ∈ xw := xw_t1 11 rfl rfl
theorem imM_labelAll : Cond.instanceMethod yX9_labelAll ∈ xw := xw_t7 79 rfl rfl
theorem slM_labelAll : Cond.selects RX9 yX9_labelAll yX9_labelAll ∈ xw := xw_t7 80 rfl rfl
theorem pmM_labelAll : yX9_labelAll.cls ≠ "java/lang/invoke/MethodHandle" ∧ yX9_labelAll.cls ≠ "java/lang/invoke/VarHandle" ∧ (parseMethodDescriptor yX9_labelAll.desc).map (fun d => d.parameters.length + 1) = some 1 := by decide +kernel
theorem lkM_389 : Cond.methodLink RX9 389 yX9_labels ∈ xw := xw_t7 82 rfl rfl
theorem cdD_isSlot : Cond.code yX8_isSlot cX8_isSlot 1 (some .boolean) ∈ xw := xw_t3 186 rfl rfl
theorem inD_isSlot : Cond.initialized yX8_isSlot.cls ∈ xw := xw_t1 1 rfl rfl
theorem imD_isSlot : Cond.static yX8_isSlot ∈ xw := xw_t3 185 rfl rfl
theorem pmD_isSlot : yX8_isSlot.cls ≠ "java/lang/invoke/MethodHandle" ∧ yX8_isSlot.cls ≠ "java/lang/invoke/VarHandle" ∧ (parseMethodDescriptor yX8_isSlot.desc).map (fun d => d.parameters.length) = some 1 := by decide +kernel
theorem cdD_keep : Cond.code yX8_keep cX8_keep 2 (some .int) ∈ xw := xw_t3 183 rfl rfl
theorem inD_keep : Cond.initialized yX8_keep.cls ∈ xw := xw_t1 1 rfl rfl
theorem imD_keep : Cond.instanceMethod yX8_keep ∈ xw := xw_t3 181 rfl rfl
theorem slD_keep : Cond.selects RX8 yX8_keep yX8_keep ∈ xw := xw_t3 182 rfl rfl
theorem pmD_keep : yX8_keep.cls ≠ "java/lang/invoke/MethodHandle" ∧ yX8_keep.cls ≠ "java/lang/invoke/VarHandle" ∧ (parseMethodDescriptor yX8_keep.desc).map (fun d => d.parameters.length + 1) = some 2 := by decide +kernel
theorem lkD_196 : Cond.methodLink RX8 196 yX8_isSlot ∈ xw ∨ ∃ host, Cond.methodLinkNest RX8 196 yX8_isSlot host ∈ xnw := Or.inl (xw_t3 184 rfl rfl)
theorem cdM_manyLabels : Cond.code yX9_manyLabels cX9_manyLabels 3 (some .int) ∈ xw := xw_t7 93 rfl rfl
theorem inM_manyLabels : Cond.initialized yX9_manyLabels.cls ∈ xw := xw_t1 11 rfl rfl
theorem imM_manyLabels : Cond.instanceMethod yX9_manyLabels ∈ xw := xw_t7 92 rfl rfl
theorem slM_manyLabels : Cond.selects RX9 yX9_manyLabels yX9_manyLabels ∈ xw := xw_p7 1 44 rfl rfl
theorem pmM_manyLabels : yX9_manyLabels.cls ≠ "java/lang/invoke/MethodHandle" ∧ yX9_manyLabels.cls ≠ "java/lang/invoke/VarHandle" ∧ (parseMethodDescriptor yX9_manyLabels.desc).map (fun d => d.parameters.length + 1) = some 1 := by decide +kernel
theorem cdM_keep : Cond.code yX9_keep cX9_keep 3 (some .int) ∈ xw := xw_t7 89 rfl rfl
theorem inM_keep : Cond.initialized yX9_keep.cls ∈ xw := xw_t1 11 rfl rfl
theorem imM_keep : Cond.instanceMethod yX9_keep ∈ xw := xw_t7 87 rfl rfl
theorem slM_keep : Cond.selects RX9 yX9_keep yX9_keep ∈ xw := xw_t7 88 rfl rfl
theorem pmM_keep : yX9_keep.cls ≠ "java/lang/invoke/MethodHandle" ∧ yX9_keep.cls ≠ "java/lang/invoke/VarHandle" ∧ (parseMethodDescriptor yX9_keep.desc).map (fun d => d.parameters.length + 1) = some 2 := by decide +kernel
theorem lkM_392 : Cond.methodLink RX9 392 yX9_manyLabels ∈ xw := xw_t7 90 rfl rfl
theorem cdD_show : Cond.code yX8_show cX8_show 2 none ∈ xw := xw_t3 194 rfl rfl
theorem inD_show : Cond.initialized yX8_show.cls ∈ xw := xw_t1 1 rfl rfl
theorem imD_show : Cond.instanceMethod yX8_show ∈ xw := xw_t3 193 rfl rfl
theorem slD_show : Cond.selects RX8 yX8_show yX8_show ∈ xw := xw_p2 11 12 rfl rfl
theorem pmD_show : yX8_show.cls ≠ "java/lang/invoke/MethodHandle" ∧ yX8_show.cls ≠ "java/lang/invoke/VarHandle" ∧ (parseMethodDescriptor yX8_show.desc).map (fun d => d.parameters.length + 1) = some 2 := by decide +kernel
theorem cdD_restore : Cond.code yX8_restore cX8_restore 2 (some .int) ∈ xw := xw_t3 190 rfl rfl
theorem inD_restore : Cond.initialized yX8_restore.cls ∈ xw := xw_t1 1 rfl rfl
theorem imD_restore : Cond.instanceMethod yX8_restore ∈ xw := xw_t3 188 rfl rfl
theorem slD_restore : Cond.selects RX8 yX8_restore yX8_restore ∈ xw := xw_t3 189 rfl rfl
theorem pmD_restore : yX8_restore.cls ≠ "java/lang/invoke/MethodHandle" ∧ yX8_restore.cls ≠ "java/lang/invoke/VarHandle" ∧ (parseMethodDescriptor yX8_restore.desc).map (fun d => d.parameters.length + 1) = some 2 := by decide +kernel
theorem lkD_202 : Cond.methodLink RX8 202 yX8_show ∈ xw := xw_t3 191 rfl rfl
theorem cdM_restore : Cond.code yX9_restore cX9_restore 3 (some .int) ∈ xw := xw_t7 97 rfl rfl
theorem inM_restore : Cond.initialized yX9_restore.cls ∈ xw := xw_t1 11 rfl rfl
theorem imM_restore : Cond.instanceMethod yX9_restore ∈ xw := xw_t7 95 rfl rfl
theorem slM_restore : Cond.selects RX9 yX9_restore yX9_restore ∈ xw := xw_t7 96 rfl rfl
theorem pmM_restore : yX9_restore.cls ≠ "java/lang/invoke/MethodHandle" ∧ yX9_restore.cls ≠ "java/lang/invoke/VarHandle" ∧ (parseMethodDescriptor yX9_restore.desc).map (fun d => d.parameters.length + 1) = some 2 := by decide +kernel
theorem cdH_pop : Cond.code yX1_pop cX1_pop 2 none ∈ xw := xw_t3 202 rfl rfl
theorem inH_pop : Cond.initialized yX1_pop.cls ∈ xw := xw_t1 7 rfl rfl
theorem imH_pop : Cond.instanceMethod yX1_pop ∈ xw := xw_t3 200 rfl rfl
theorem slH_pop : Cond.selects RX1 yX1_pop yX1_pop ∈ xw := xw_t3 201 rfl rfl
theorem pmH_pop : yX1_pop.cls ≠ "java/lang/invoke/MethodHandle" ∧ yX1_pop.cls ≠ "java/lang/invoke/VarHandle" ∧ (parseMethodDescriptor yX1_pop.desc).map (fun d => d.parameters.length + 1) = some 2 := by decide +kernel
theorem cdD_undo : Cond.code yX8_undo cX8_undo 1 (some .int) ∈ xw := xw_t3 198 rfl rfl
theorem inD_undo : Cond.initialized yX8_undo.cls ∈ xw := xw_t1 1 rfl rfl
theorem imD_undo : Cond.instanceMethod yX8_undo ∈ xw := xw_t3 196 rfl rfl
theorem slD_undo : Cond.selects RX8 yX8_undo yX8_undo ∈ xw := xw_t3 197 rfl rfl
theorem pmD_undo : yX8_undo.cls ≠ "java/lang/invoke/MethodHandle" ∧ yX8_undo.cls ≠ "java/lang/invoke/VarHandle" ∧ (parseMethodDescriptor yX8_undo.desc).map (fun d => d.parameters.length + 1) = some 1 := by decide +kernel
theorem lkD_206 : Cond.methodLink RX8 206 yX1_pop ∈ xw := xw_t3 199 rfl rfl
theorem cdM_undo : Cond.code yX9_undo cX9_undo 2 (some .int) ∈ xw := xw_t6 100 rfl rfl
theorem inM_undo : Cond.initialized yX9_undo.cls ∈ xw := xw_t1 11 rfl rfl
theorem imM_undo : Cond.instanceMethod yX9_undo ∈ xw := xw_t6 98 rfl rfl
theorem slM_undo : Cond.selects RX9 yX9_undo yX9_undo ∈ xw := xw_t6 99 rfl rfl
theorem pmM_undo : yX9_undo.cls ≠ "java/lang/invoke/MethodHandle" ∧ yX9_undo.cls ≠ "java/lang/invoke/VarHandle" ∧ (parseMethodDescriptor yX9_undo.desc).map (fun d => d.parameters.length + 1) = some 1 := by decide +kernel
theorem cdP_countStations : Cond.code yX5_countStations cX5_countStations 3 (some .int) ∈ xw := xw_t3 210 rfl rfl
theorem inP_countStations : Cond.initialized yX5_countStations.cls ∈ xw := xw_t1 4 rfl rfl
theorem imP_countStations : Cond.instanceMethod yX5_countStations ∈ xw := xw_t3 208 rfl rfl
theorem slP_countStations : Cond.selects RX5 yX5_countStations yX5_countStations ∈ xw := xw_t3 209 rfl rfl
theorem pmP_countStations : yX5_countStations.cls ≠ "java/lang/invoke/MethodHandle" ∧ yX5_countStations.cls ≠ "java/lang/invoke/VarHandle" ∧ (parseMethodDescriptor yX5_countStations.desc).map (fun d => d.parameters.length + 1) = some 1 := by decide +kernel
theorem cdB_countMarked : Cond.code yX0_countMarked cX0_countMarked 6 (some .int) ∈ xw := xw_t3 217 rfl rfl
theorem inB_countMarked : Cond.initialized yX0_countMarked.cls ∈ xw := xw_t1 8 rfl rfl
theorem imB_countMarked : Cond.static yX0_countMarked ∈ xw := xw_t3 216 rfl rfl
theorem pmB_countMarked : yX0_countMarked.cls ≠ "java/lang/invoke/MethodHandle" ∧ yX0_countMarked.cls ≠ "java/lang/invoke/VarHandle" ∧ (parseMethodDescriptor yX0_countMarked.desc).map (fun d => d.parameters.length) = some 1 := by decide +kernel
theorem cdB_countPlaces : Cond.code yX0_countPlaces cX0_countPlaces 1 (some .int) ∈ xw := xw_t3 214 rfl rfl
theorem inB_countPlaces : Cond.initialized yX0_countPlaces.cls ∈ xw := xw_t1 8 rfl rfl
theorem imB_countPlaces : Cond.instanceMethod yX0_countPlaces ∈ xw := xw_t3 212 rfl rfl
theorem slB_countPlaces : Cond.selects RX0 yX0_countPlaces yX0_countPlaces ∈ xw := xw_t3 213 rfl rfl
theorem pmB_countPlaces : yX0_countPlaces.cls ≠ "java/lang/invoke/MethodHandle" ∧ yX0_countPlaces.cls ≠ "java/lang/invoke/VarHandle" ∧ (parseMethodDescriptor yX0_countPlaces.desc).map (fun d => d.parameters.length + 1) = some 1 := by decide +kernel
theorem lkB_117 : Cond.methodLink RX0 117 yX0_countMarked ∈ xw ∨ ∃ host, Cond.methodLinkNest RX0 117 yX0_countMarked host ∈ xnw := Or.inl (xw_t3 215 rfl rfl)
theorem cdB_countLineCells : Cond.code yX0_countLineCells cX0_countLineCells 1 (some .int) ∈ xw := xw_t3 221 rfl rfl
theorem inB_countLineCells : Cond.initialized yX0_countLineCells.cls ∈ xw := xw_t1 8 rfl rfl
theorem imB_countLineCells : Cond.instanceMethod yX0_countLineCells ∈ xw := xw_t3 219 rfl rfl
theorem slB_countLineCells : Cond.selects RX0 yX0_countLineCells yX0_countLineCells ∈ xw := xw_t3 220 rfl rfl
theorem pmB_countLineCells : yX0_countLineCells.cls ≠ "java/lang/invoke/MethodHandle" ∧ yX0_countLineCells.cls ≠ "java/lang/invoke/VarHandle" ∧ (parseMethodDescriptor yX0_countLineCells.desc).map (fun d => d.parameters.length + 1) = some 1 := by decide +kernel
theorem cdB_countLabelCells : Cond.code yX0_countLabelCells cX0_countLabelCells 1 (some .int) ∈ xw := xw_t3 225 rfl rfl
theorem inB_countLabelCells : Cond.initialized yX0_countLabelCells.cls ∈ xw := xw_t1 8 rfl rfl
theorem imB_countLabelCells : Cond.instanceMethod yX0_countLabelCells ∈ xw := xw_t3 223 rfl rfl
theorem slB_countLabelCells : Cond.selects RX0 yX0_countLabelCells yX0_countLabelCells ∈ xw := xw_t3 224 rfl rfl
theorem pmB_countLabelCells : yX0_countLabelCells.cls ≠ "java/lang/invoke/MethodHandle" ∧ yX0_countLabelCells.cls ≠ "java/lang/invoke/VarHandle" ∧ (parseMethodDescriptor yX0_countLabelCells.desc).map (fun d => d.parameters.length + 1) = some 1 := by decide +kernel
theorem cdB_isOfTwo : Cond.code yX0_isOfTwo cX0_isOfTwo 1 (some .boolean) ∈ xw := xw_t3 236 rfl rfl
theorem inB_isOfTwo : Cond.initialized yX0_isOfTwo.cls ∈ xw := xw_t1 8 rfl rfl
theorem imB_isOfTwo : Cond.static yX0_isOfTwo ∈ xw := xw_t3 235 rfl rfl
theorem pmB_isOfTwo : yX0_isOfTwo.cls ≠ "java/lang/invoke/MethodHandle" ∧ yX0_isOfTwo.cls ≠ "java/lang/invoke/VarHandle" ∧ (parseMethodDescriptor yX0_isOfTwo.desc).map (fun d => d.parameters.length) = some 1 := by decide +kernel
theorem cdB_isCrossing : Cond.code yX0_isCrossing cX0_isCrossing 3 (some .boolean) ∈ xw := xw_t3 233 rfl rfl
theorem inB_isCrossing : Cond.initialized yX0_isCrossing.cls ∈ xw := xw_t1 8 rfl rfl
theorem imB_isCrossing : Cond.instanceMethod yX0_isCrossing ∈ xw := xw_t3 232 rfl rfl
theorem slB_isCrossing : Cond.selects RX0 yX0_isCrossing yX0_isCrossing ∈ xw := xw_p2 12 9 rfl rfl
theorem pmB_isCrossing : yX0_isCrossing.cls ≠ "java/lang/invoke/MethodHandle" ∧ yX0_isCrossing.cls ≠ "java/lang/invoke/VarHandle" ∧ (parseMethodDescriptor yX0_isCrossing.desc).map (fun d => d.parameters.length + 1) = some 3 := by decide +kernel
theorem lkB_130 : Cond.methodLink RX0 130 yX0_isOfTwo ∈ xw ∨ ∃ host, Cond.methodLinkNest RX0 130 yX0_isOfTwo host ∈ xnw := Or.inl (xw_t3 234 rfl rfl)
theorem cdB_countCrossings : Cond.code yX0_countCrossings cX0_countCrossings 4 (some .int) ∈ xw := xw_t3 229 rfl rfl
theorem inB_countCrossings : Cond.initialized yX0_countCrossings.cls ∈ xw := xw_t1 8 rfl rfl
theorem imB_countCrossings : Cond.instanceMethod yX0_countCrossings ∈ xw := xw_t3 227 rfl rfl
theorem slB_countCrossings : Cond.selects RX0 yX0_countCrossings yX0_countCrossings ∈ xw := xw_t3 228 rfl rfl
theorem pmB_countCrossings : yX0_countCrossings.cls ≠ "java/lang/invoke/MethodHandle" ∧ yX0_countCrossings.cls ≠ "java/lang/invoke/VarHandle" ∧ (parseMethodDescriptor yX0_countCrossings.desc).map (fun d => d.parameters.length + 1) = some 2 := by decide +kernel
theorem lkB_134 : Cond.methodLink RX0 134 yX0_isCrossing ∈ xw := xw_t3 230 rfl rfl
theorem cdB_stepMask : Cond.code yX0_stepMask cX0_stepMask 3 (some .int) ∈ xw := xw_t4 4 rfl rfl
theorem inB_stepMask : Cond.initialized yX0_stepMask.cls ∈ xw := xw_t1 8 rfl rfl
theorem imB_stepMask : Cond.instanceMethod yX0_stepMask ∈ xw := xw_t4 3 rfl rfl
theorem slB_stepMask : Cond.selects RX0 yX0_stepMask yX0_stepMask ∈ xw := xw_p2 13 9 rfl rfl
theorem pmB_stepMask : yX0_stepMask.cls ≠ "java/lang/invoke/MethodHandle" ∧ yX0_stepMask.cls ≠ "java/lang/invoke/VarHandle" ∧ (parseMethodDescriptor yX0_stepMask.desc).map (fun d => d.parameters.length + 1) = some 3 := by decide +kernel
theorem cdJI_bitCount : Cond.code yJ6_bitCount_0f7a4 cJ6_bitCount_0f7a4 1 (some .int) ∈ xw := xw_t4 10 rfl rfl
theorem inJI_bitCount : Cond.initialized yJ6_bitCount_0f7a4.cls ∈ xw := xw_t1 14 rfl rfl
theorem imJI_bitCount : Cond.static yJ6_bitCount_0f7a4 ∈ xw := xw_t4 9 rfl rfl
theorem pmJI_bitCount : yJ6_bitCount_0f7a4.cls ≠ "java/lang/invoke/MethodHandle" ∧ yJ6_bitCount_0f7a4.cls ≠ "java/lang/invoke/VarHandle" ∧ (parseMethodDescriptor yJ6_bitCount_0f7a4.desc).map (fun d => d.parameters.length) = some 1 := by decide +kernel
theorem cdB_countPairs : Cond.code yX0_countPairs cX0_countPairs 4 (some .int) ∈ xw := xw_t4 7 rfl rfl
theorem inB_countPairs : Cond.initialized yX0_countPairs.cls ∈ xw := xw_t1 8 rfl rfl
theorem imB_countPairs : Cond.static yX0_countPairs ∈ xw := xw_t4 6 rfl rfl
theorem pmB_countPairs : yX0_countPairs.cls ≠ "java/lang/invoke/MethodHandle" ∧ yX0_countPairs.cls ≠ "java/lang/invoke/VarHandle" ∧ (parseMethodDescriptor yX0_countPairs.desc).map (fun d => d.parameters.length) = some 2 := by decide +kernel
theorem lkB_121 : Cond.methodLink RX0 121 yJ6_bitCount_0f7a4 ∈ xw ∨ ∃ host, Cond.methodLinkNest RX0 121 yJ6_bitCount_0f7a4 host ∈ xnw := Or.inl (xw_t4 8 rfl rfl)
theorem cdB_countBetween : Cond.code yX0_countBetween cX0_countBetween 5 (some .int) ∈ xw := xw_t4 0 rfl rfl
theorem inB_countBetween : Cond.initialized yX0_countBetween.cls ∈ xw := xw_t1 8 rfl rfl
theorem imB_countBetween : Cond.instanceMethod yX0_countBetween ∈ xw := xw_t3 238 rfl rfl
theorem slB_countBetween : Cond.selects RX0 yX0_countBetween yX0_countBetween ∈ xw := xw_t3 239 rfl rfl
theorem pmB_countBetween : yX0_countBetween.cls ≠ "java/lang/invoke/MethodHandle" ∧ yX0_countBetween.cls ≠ "java/lang/invoke/VarHandle" ∧ (parseMethodDescriptor yX0_countBetween.desc).map (fun d => d.parameters.length + 1) = some 2 := by decide +kernel
theorem lkB_141 : Cond.methodLink RX0 141 yX0_stepMask ∈ xw := xw_t4 1 rfl rfl
theorem lkB_144 : Cond.methodLink RX0 144 yX0_countPairs ∈ xw ∨ ∃ host, Cond.methodLinkNest RX0 144 yX0_countPairs host ∈ xnw := Or.inl (xw_t4 5 rfl rfl)
theorem cdB_countSideBySide : Cond.code yX0_countSideBySide cX0_countSideBySide 6 (some .int) ∈ xw := xw_t4 17 rfl rfl
theorem inB_countSideBySide : Cond.initialized yX0_countSideBySide.cls ∈ xw := xw_t1 8 rfl rfl
theorem imB_countSideBySide : Cond.instanceMethod yX0_countSideBySide ∈ xw := xw_t4 15 rfl rfl
theorem slB_countSideBySide : Cond.selects RX0 yX0_countSideBySide yX0_countSideBySide ∈ xw := xw_t4 16 rfl rfl
theorem pmB_countSideBySide : yX0_countSideBySide.cls ≠ "java/lang/invoke/MethodHandle" ∧ yX0_countSideBySide.cls ≠ "java/lang/invoke/VarHandle" ∧ (parseMethodDescriptor yX0_countSideBySide.desc).map (fun d => d.parameters.length + 1) = some 2 := by decide +kernel
theorem cdD_value : Cond.code yX8_value cX8_value 2 (some .int) ∈ xw := xw_t3 206 rfl rfl
theorem inD_value : Cond.initialized yX8_value.cls ∈ xw := xw_t1 1 rfl rfl
theorem imD_value : Cond.instanceMethod yX8_value ∈ xw := xw_t3 204 rfl rfl
theorem slD_value : Cond.selects RX8 yX8_value yX8_value ∈ xw := xw_t3 205 rfl rfl
theorem pmD_value : yX8_value.cls ≠ "java/lang/invoke/MethodHandle" ∧ yX8_value.cls ≠ "java/lang/invoke/VarHandle" ∧ (parseMethodDescriptor yX8_value.desc).map (fun d => d.parameters.length + 1) = some 2 := by decide +kernel
theorem lkD_218 : Cond.methodLink RX8 218 yX5_countStations ∈ xw := xw_t3 207 rfl rfl
theorem lkD_221 : Cond.methodLink RX8 221 yX0_countPlaces ∈ xw := xw_t3 211 rfl rfl
theorem lkD_224 : Cond.methodLink RX8 224 yX0_countLineCells ∈ xw := xw_t3 218 rfl rfl
theorem lkD_227 : Cond.methodLink RX8 227 yX0_countLabelCells ∈ xw := xw_t3 222 rfl rfl
theorem lkD_230 : Cond.methodLink RX8 230 yX0_countCrossings ∈ xw := xw_t3 226 rfl rfl
theorem lkD_233 : Cond.methodLink RX8 233 yX0_countBetween ∈ xw := xw_t3 237 rfl rfl
theorem lkD_236 : Cond.methodLink RX8 236 yX0_countSideBySide ∈ xw := xw_t4 14 rfl rfl
theorem cdM_allStops : Cond.code yX9_allStops cX9_allStops 3 (some .int) ∈ xw := xw_t7 105 rfl rfl
theorem inM_allStops : Cond.initialized yX9_allStops.cls ∈ xw := xw_t1 11 rfl rfl
theorem imM_allStops : Cond.instanceMethod yX9_allStops ∈ xw := xw_t7 104 rfl rfl
theorem slM_allStops : Cond.selects RX9 yX9_allStops yX9_allStops ∈ xw := xw_p7 2 44 rfl rfl
theorem pmM_allStops : yX9_allStops.cls ≠ "java/lang/invoke/MethodHandle" ∧ yX9_allStops.cls ≠ "java/lang/invoke/VarHandle" ∧ (parseMethodDescriptor yX9_allStops.desc).map (fun d => d.parameters.length + 1) = some 1 := by decide +kernel
theorem cdM_sortOf : Cond.code yX9_sortOf cX9_sortOf 2 (some .int) ∈ xw := xw_t7 113 rfl rfl
theorem inM_sortOf : Cond.initialized yX9_sortOf.cls ∈ xw := xw_t1 11 rfl rfl
theorem imM_sortOf : Cond.instanceMethod yX9_sortOf ∈ xw := xw_t7 112 rfl rfl
theorem slM_sortOf : Cond.selects RX9 yX9_sortOf yX9_sortOf ∈ xw := xw_p7 4 44 rfl rfl
theorem pmM_sortOf : yX9_sortOf.cls ≠ "java/lang/invoke/MethodHandle" ∧ yX9_sortOf.cls ≠ "java/lang/invoke/VarHandle" ∧ (parseMethodDescriptor yX9_sortOf.desc).map (fun d => d.parameters.length + 1) = some 2 := by decide +kernel
theorem cdM_cellsOf : Cond.code yX9_cellsOf cX9_cellsOf 4 (some .int) ∈ xw := xw_t7 109 rfl rfl
theorem inM_cellsOf : Cond.initialized yX9_cellsOf.cls ∈ xw := xw_t1 11 rfl rfl
theorem imM_cellsOf : Cond.instanceMethod yX9_cellsOf ∈ xw := xw_t7 108 rfl rfl
theorem slM_cellsOf : Cond.selects RX9 yX9_cellsOf yX9_cellsOf ∈ xw := xw_p7 3 44 rfl rfl
theorem pmM_cellsOf : yX9_cellsOf.cls ≠ "java/lang/invoke/MethodHandle" ∧ yX9_cellsOf.cls ≠ "java/lang/invoke/VarHandle" ∧ (parseMethodDescriptor yX9_cellsOf.desc).map (fun d => d.parameters.length + 1) = some 2 := by decide +kernel
theorem lkM_414 : Cond.methodLink RX9 414 yX9_sortOf ∈ xw := xw_t7 110 rfl rfl
theorem cdM_ones : Cond.code yX9_ones cX9_ones 3 (some .int) ∈ xw := xw_t7 124 rfl rfl
theorem inM_ones : Cond.initialized yX9_ones.cls ∈ xw := xw_t1 11 rfl rfl
theorem imM_ones : Cond.static yX9_ones ∈ xw := xw_t7 123 rfl rfl
theorem pmM_ones : yX9_ones.cls ≠ "java/lang/invoke/MethodHandle" ∧ yX9_ones.cls ≠ "java/lang/invoke/VarHandle" ∧ (parseMethodDescriptor yX9_ones.desc).map (fun d => d.parameters.length) = some 1 := by decide +kernel
theorem cdM_isCrossing : Cond.code yX9_isCrossing cX9_isCrossing 2 (some .boolean) ∈ xw := xw_t7 121 rfl rfl
theorem inM_isCrossing : Cond.initialized yX9_isCrossing.cls ∈ xw := xw_t1 11 rfl rfl
theorem imM_isCrossing : Cond.instanceMethod yX9_isCrossing ∈ xw := xw_t7 120 rfl rfl
theorem slM_isCrossing : Cond.selects RX9 yX9_isCrossing yX9_isCrossing ∈ xw := xw_p7 6 44 rfl rfl
theorem pmM_isCrossing : yX9_isCrossing.cls ≠ "java/lang/invoke/MethodHandle" ∧ yX9_isCrossing.cls ≠ "java/lang/invoke/VarHandle" ∧ (parseMethodDescriptor yX9_isCrossing.desc).map (fun d => d.parameters.length + 1) = some 2 := by decide +kernel
theorem lkM_395 : Cond.methodLink RX9 395 yX9_ones ∈ xw ∨ ∃ host, Cond.methodLinkNest RX9 395 yX9_ones host ∈ xnw := Or.inl (xw_t7 122 rfl rfl)
theorem cdM_allCrossings : Cond.code yX9_allCrossings cX9_allCrossings 3 (some .int) ∈ xw := xw_t7 117 rfl rfl
theorem inM_allCrossings : Cond.initialized yX9_allCrossings.cls ∈ xw := xw_t1 11 rfl rfl
theorem imM_allCrossings : Cond.instanceMethod yX9_allCrossings ∈ xw := xw_t7 116 rfl rfl
theorem slM_allCrossings : Cond.selects RX9 yX9_allCrossings yX9_allCrossings ∈ xw := xw_p7 5 44 rfl rfl
theorem pmM_allCrossings : yX9_allCrossings.cls ≠ "java/lang/invoke/MethodHandle" ∧ yX9_allCrossings.cls ≠ "java/lang/invoke/VarHandle" ∧ (parseMethodDescriptor yX9_allCrossings.desc).map (fun d => d.parameters.length + 1) = some 1 := by decide +kernel
theorem lkM_398 : Cond.methodLink RX9 398 yX9_isCrossing ∈ xw := xw_t7 118 rfl rfl
theorem cdM_has : Cond.code yX9_has cX9_has 2 (some .boolean) ∈ xw := xw_t7 139 rfl rfl
theorem inM_has : Cond.initialized yX9_has.cls ∈ xw := xw_t1 11 rfl rfl
theorem imM_has : Cond.static yX9_has ∈ xw := xw_t7 138 rfl rfl
theorem pmM_has : yX9_has.cls ≠ "java/lang/invoke/MethodHandle" ∧ yX9_has.cls ≠ "java/lang/invoke/VarHandle" ∧ (parseMethodDescriptor yX9_has.desc).map (fun d => d.parameters.length) = some 2 := by decide +kernel
theorem cdM_crossBehind : Cond.code yX9_crossBehind cX9_crossBehind 6 (some .boolean) ∈ xw := xw_t7 136 rfl rfl
theorem inM_crossBehind : Cond.initialized yX9_crossBehind.cls ∈ xw := xw_t1 11 rfl rfl
theorem imM_crossBehind : Cond.instanceMethod yX9_crossBehind ∈ xw := xw_t7 135 rfl rfl
theorem slM_crossBehind : Cond.selects RX9 yX9_crossBehind yX9_crossBehind ∈ xw := xw_p7 9 44 rfl rfl
theorem pmM_crossBehind : yX9_crossBehind.cls ≠ "java/lang/invoke/MethodHandle" ∧ yX9_crossBehind.cls ≠ "java/lang/invoke/VarHandle" ∧ (parseMethodDescriptor yX9_crossBehind.desc).map (fun d => d.parameters.length + 1) = some 4 := by decide +kernel
theorem lkM_401 : Cond.methodLink RX9 401 yX9_has ∈ xw ∨ ∃ host, Cond.methodLinkNest RX9 401 yX9_has host ∈ xnw := Or.inl (xw_t7 137 rfl rfl)
theorem cdM_between : Cond.code yX9_between cX9_between 5 (some .int) ∈ xw := xw_t7 132 rfl rfl
theorem inM_between : Cond.initialized yX9_between.cls ∈ xw := xw_t1 11 rfl rfl
theorem imM_between : Cond.instanceMethod yX9_between ∈ xw := xw_t7 131 rfl rfl
theorem slM_between : Cond.selects RX9 yX9_between yX9_between ∈ xw := xw_p7 8 44 rfl rfl
theorem pmM_between : yX9_between.cls ≠ "java/lang/invoke/MethodHandle" ∧ yX9_between.cls ≠ "java/lang/invoke/VarHandle" ∧ (parseMethodDescriptor yX9_between.desc).map (fun d => d.parameters.length + 1) = some 3 := by decide +kernel
theorem lkM_404 : Cond.methodLink RX9 404 yX9_crossBehind ∈ xw := xw_t7 133 rfl rfl
theorem cdM_sideBySide : Cond.code yX9_sideBySide cX9_sideBySide 5 (some .int) ∈ xw := xw_t7 143 rfl rfl
theorem inM_sideBySide : Cond.initialized yX9_sideBySide.cls ∈ xw := xw_t1 11 rfl rfl
theorem imM_sideBySide : Cond.instanceMethod yX9_sideBySide ∈ xw := xw_t7 142 rfl rfl
theorem slM_sideBySide : Cond.selects RX9 yX9_sideBySide yX9_sideBySide ∈ xw := xw_p7 10 44 rfl rfl
theorem pmM_sideBySide : yX9_sideBySide.cls ≠ "java/lang/invoke/MethodHandle" ∧ yX9_sideBySide.cls ≠ "java/lang/invoke/VarHandle" ∧ (parseMethodDescriptor yX9_sideBySide.desc).map (fun d => d.parameters.length + 1) = some 3 := by decide +kernel
theorem cdM_allOf : Cond.code yX9_allOf cX9_allOf 5 (some .int) ∈ xw := xw_t7 128 rfl rfl
theorem inM_allOf : Cond.initialized yX9_allOf.cls ∈ xw := xw_t1 11 rfl rfl
theorem imM_allOf : Cond.instanceMethod yX9_allOf ∈ xw := xw_t7 127 rfl rfl
theorem slM_allOf : Cond.selects RX9 yX9_allOf yX9_allOf ∈ xw := xw_p7 7 44 rfl rfl
theorem pmM_allOf : yX9_allOf.cls ≠ "java/lang/invoke/MethodHandle" ∧ yX9_allOf.cls ≠ "java/lang/invoke/VarHandle" ∧ (parseMethodDescriptor yX9_allOf.desc).map (fun d => d.parameters.length + 1) = some 2 := by decide +kernel
theorem lkM_408 : Cond.methodLink RX9 408 yX9_between ∈ xw := xw_t7 129 rfl rfl
theorem lkM_411 : Cond.methodLink RX9 411 yX9_sideBySide ∈ xw := xw_t7 140 rfl rfl
theorem cdM_value : Cond.code yX9_value cX9_value 2 (some .int) ∈ xw := xw_t7 101 rfl rfl
theorem inM_value : Cond.initialized yX9_value.cls ∈ xw := xw_t1 11 rfl rfl
theorem imM_value : Cond.instanceMethod yX9_value ∈ xw := xw_t7 99 rfl rfl
theorem slM_value : Cond.selects RX9 yX9_value yX9_value ∈ xw := xw_t7 100 rfl rfl
theorem pmM_value : yX9_value.cls ≠ "java/lang/invoke/MethodHandle" ∧ yX9_value.cls ≠ "java/lang/invoke/VarHandle" ∧ (parseMethodDescriptor yX9_value.desc).map (fun d => d.parameters.length + 1) = some 2 := by decide +kernel
theorem lkM_417 : Cond.methodLink RX9 417 yX9_allStops ∈ xw := xw_t7 102 rfl rfl
theorem lkM_420 : Cond.methodLink RX9 420 yX9_cellsOf ∈ xw := xw_t7 106 rfl rfl
theorem lkM_423 : Cond.methodLink RX9 423 yX9_allCrossings ∈ xw := xw_t7 114 rfl rfl
theorem lkM_426 : Cond.methodLink RX9 426 yX9_allOf ∈ xw := xw_t7 125 rfl rfl
theorem cdLn_countBends : Cond.code yX3_countBends cX3_countBends 3 (some .int) ∈ xw := xw_t4 26 rfl rfl
theorem inLn_countBends : Cond.initialized yX3_countBends.cls ∈ xw := xw_t1 6 rfl rfl
theorem imLn_countBends : Cond.instanceMethod yX3_countBends ∈ xw := xw_t4 24 rfl rfl
theorem slLn_countBends : Cond.selects RX3 yX3_countBends yX3_countBends ∈ xw := xw_t4 25 rfl rfl
theorem pmLn_countBends : yX3_countBends.cls ≠ "java/lang/invoke/MethodHandle" ∧ yX3_countBends.cls ≠ "java/lang/invoke/VarHandle" ∧ (parseMethodDescriptor yX3_countBends.desc).map (fun d => d.parameters.length + 1) = some 1 := by decide +kernel
theorem cdLn_greatestTurn : Cond.code yX3_greatestTurn cX3_greatestTurn 3 (some .int) ∈ xw := xw_t4 30 rfl rfl
theorem inLn_greatestTurn : Cond.initialized yX3_greatestTurn.cls ∈ xw := xw_t1 6 rfl rfl
theorem imLn_greatestTurn : Cond.instanceMethod yX3_greatestTurn ∈ xw := xw_t4 28 rfl rfl
theorem slLn_greatestTurn : Cond.selects RX3 yX3_greatestTurn yX3_greatestTurn ∈ xw := xw_t4 29 rfl rfl
theorem pmLn_greatestTurn : yX3_greatestTurn.cls ≠ "java/lang/invoke/MethodHandle" ∧ yX3_greatestTurn.cls ≠ "java/lang/invoke/VarHandle" ∧ (parseMethodDescriptor yX3_greatestTurn.desc).map (fun d => d.parameters.length + 1) = some 1 := by decide +kernel
theorem cdLn_sumOfTurns : Cond.code yX3_sumOfTurns cX3_sumOfTurns 3 (some .int) ∈ xw := xw_t4 34 rfl rfl
theorem inLn_sumOfTurns : Cond.initialized yX3_sumOfTurns.cls ∈ xw := xw_t1 6 rfl rfl
theorem imLn_sumOfTurns : Cond.instanceMethod yX3_sumOfTurns ∈ xw := xw_t4 32 rfl rfl
theorem slLn_sumOfTurns : Cond.selects RX3 yX3_sumOfTurns yX3_sumOfTurns ∈ xw := xw_t4 33 rfl rfl
theorem pmLn_sumOfTurns : yX3_sumOfTurns.cls ≠ "java/lang/invoke/MethodHandle" ∧ yX3_sumOfTurns.cls ≠ "java/lang/invoke/VarHandle" ∧ (parseMethodDescriptor yX3_sumOfTurns.desc).map (fun d => d.parameters.length + 1) = some 1 := by decide +kernel
theorem cdLn_slantingSteps : Cond.code yX3_slantingSteps cX3_slantingSteps 3 (some .int) ∈ xw := xw_t4 38 rfl rfl
theorem inLn_slantingSteps : Cond.initialized yX3_slantingSteps.cls ∈ xw := xw_t1 6 rfl rfl
theorem imLn_slantingSteps : Cond.instanceMethod yX3_slantingSteps ∈ xw := xw_t4 36 rfl rfl
theorem slLn_slantingSteps : Cond.selects RX3 yX3_slantingSteps yX3_slantingSteps ∈ xw := xw_t4 37 rfl rfl
theorem pmLn_slantingSteps : yX3_slantingSteps.cls ≠ "java/lang/invoke/MethodHandle" ∧ yX3_slantingSteps.cls ≠ "java/lang/invoke/VarHandle" ∧ (parseMethodDescriptor yX3_slantingSteps.desc).map (fun d => d.parameters.length + 1) = some 1 := by decide +kernel
theorem cdB_countMet : Cond.code yX0_countMet cX0_countMet 4 (some .int) ∈ xw := xw_t4 42 rfl rfl
theorem inB_countMet : Cond.initialized yX0_countMet.cls ∈ xw := xw_t1 8 rfl rfl
theorem imB_countMet : Cond.instanceMethod yX0_countMet ∈ xw := xw_t4 40 rfl rfl
theorem slB_countMet : Cond.selects RX0 yX0_countMet yX0_countMet ∈ xw := xw_t4 41 rfl rfl
theorem pmB_countMet : yX0_countMet.cls ≠ "java/lang/invoke/MethodHandle" ∧ yX0_countMet.cls ≠ "java/lang/invoke/VarHandle" ∧ (parseMethodDescriptor yX0_countMet.desc).map (fun d => d.parameters.length + 1) = some 2 := by decide +kernel
theorem cdD_line : Cond.code yX8_line cX8_line 4 (some .int) ∈ xw := xw_t4 21 rfl rfl
theorem inD_line : Cond.initialized yX8_line.cls ∈ xw := xw_t1 1 rfl rfl
theorem imD_line : Cond.instanceMethod yX8_line ∈ xw := xw_t4 19 rfl rfl
theorem slD_line : Cond.selects RX8 yX8_line yX8_line ∈ xw := xw_t4 20 rfl rfl
theorem pmD_line : yX8_line.cls ≠ "java/lang/invoke/MethodHandle" ∧ yX8_line.cls ≠ "java/lang/invoke/VarHandle" ∧ (parseMethodDescriptor yX8_line.desc).map (fun d => d.parameters.length + 1) = some 3 := by decide +kernel
theorem lkD_239 : Cond.methodLink RX8 239 yX3_steps ∈ xw := xw_t4 22 rfl rfl
theorem lkD_242 : Cond.methodLink RX8 242 yX3_countBends ∈ xw := xw_t4 23 rfl rfl
theorem lkD_245 : Cond.methodLink RX8 245 yX3_greatestTurn ∈ xw := xw_t4 27 rfl rfl
theorem lkD_248 : Cond.methodLink RX8 248 yX3_sumOfTurns ∈ xw := xw_t4 31 rfl rfl
theorem lkD_251 : Cond.methodLink RX8 251 yX3_slantingSteps ∈ xw := xw_t4 35 rfl rfl
theorem lkD_254 : Cond.methodLink RX8 254 yX0_countMet ∈ xw := xw_t4 39 rfl rfl
theorem cdM_turns : Cond.code yX9_turns cX9_turns 6 (some .int) ∈ xw := xw_t7 151 rfl rfl
theorem inM_turns : Cond.initialized yX9_turns.cls ∈ xw := xw_t1 11 rfl rfl
theorem imM_turns : Cond.instanceMethod yX9_turns ∈ xw := xw_t7 150 rfl rfl
theorem slM_turns : Cond.selects RX9 yX9_turns yX9_turns ∈ xw := xw_p7 11 44 rfl rfl
theorem pmM_turns : yX9_turns.cls ≠ "java/lang/invoke/MethodHandle" ∧ yX9_turns.cls ≠ "java/lang/invoke/VarHandle" ∧ (parseMethodDescriptor yX9_turns.desc).map (fun d => d.parameters.length + 1) = some 3 := by decide +kernel
theorem cdM_slantsOf : Cond.code yX9_slantsOf cX9_slantsOf 4 (some .int) ∈ xw := xw_t7 155 rfl rfl
theorem inM_slantsOf : Cond.initialized yX9_slantsOf.cls ∈ xw := xw_t1 11 rfl rfl
theorem imM_slantsOf : Cond.instanceMethod yX9_slantsOf ∈ xw := xw_t7 154 rfl rfl
theorem slM_slantsOf : Cond.selects RX9 yX9_slantsOf yX9_slantsOf ∈ xw := xw_p7 12 44 rfl rfl
theorem pmM_slantsOf : yX9_slantsOf.cls ≠ "java/lang/invoke/MethodHandle" ∧ yX9_slantsOf.cls ≠ "java/lang/invoke/VarHandle" ∧ (parseMethodDescriptor yX9_slantsOf.desc).map (fun d => d.parameters.length + 1) = some 2 := by decide +kernel
theorem cdM_meets : Cond.code yX9_meets cX9_meets 4 (some .int) ∈ xw := xw_t7 159 rfl rfl
theorem inM_meets : Cond.initialized yX9_meets.cls ∈ xw := xw_t1 11 rfl rfl
theorem imM_meets : Cond.instanceMethod yX9_meets ∈ xw := xw_t7 158 rfl rfl
theorem slM_meets : Cond.selects RX9 yX9_meets yX9_meets ∈ xw := xw_p7 13 44 rfl rfl
theorem pmM_meets : yX9_meets.cls ≠ "java/lang/invoke/MethodHandle" ∧ yX9_meets.cls ≠ "java/lang/invoke/VarHandle" ∧ (parseMethodDescriptor yX9_meets.desc).map (fun d => d.parameters.length + 1) = some 2 := by decide +kernel
theorem cdM_line : Cond.code yX9_line cX9_line 3 (some .int) ∈ xw := xw_t7 147 rfl rfl
theorem inM_line : Cond.initialized yX9_line.cls ∈ xw := xw_t1 11 rfl rfl
theorem imM_line : Cond.instanceMethod yX9_line ∈ xw := xw_t7 145 rfl rfl
theorem slM_line : Cond.selects RX9 yX9_line yX9_line ∈ xw := xw_t7 146 rfl rfl
theorem pmM_line : yX9_line.cls ≠ "java/lang/invoke/MethodHandle" ∧ yX9_line.cls ≠ "java/lang/invoke/VarHandle" ∧ (parseMethodDescriptor yX9_line.desc).map (fun d => d.parameters.length + 1) = some 3 := by decide +kernel
theorem lkM_430 : Cond.methodLink RX9 430 yX9_turns ∈ xw := xw_t7 148 rfl rfl
theorem lkM_433 : Cond.methodLink RX9 433 yX9_slantsOf ∈ xw := xw_t7 152 rfl rfl
theorem lkM_436 : Cond.methodLink RX9 436 yX9_meets ∈ xw := xw_t7 156 rfl rfl
theorem cdD_point : Cond.code yX8_point cX8_point 4 (some .int) ∈ xw := xw_t4 46 rfl rfl
theorem inD_point : Cond.initialized yX8_point.cls ∈ xw := xw_t1 1 rfl rfl
theorem imD_point : Cond.instanceMethod yX8_point ∈ xw := xw_t4 44 rfl rfl
theorem slD_point : Cond.selects RX8 yX8_point yX8_point ∈ xw := xw_t4 45 rfl rfl
theorem pmD_point : yX8_point.cls ≠ "java/lang/invoke/MethodHandle" ∧ yX8_point.cls ≠ "java/lang/invoke/VarHandle" ∧ (parseMethodDescriptor yX8_point.desc).map (fun d => d.parameters.length + 1) = some 4 := by decide +kernel
theorem cdM_point : Cond.code yX9_point cX9_point 4 (some .int) ∈ xw := xw_t7 163 rfl rfl
theorem inM_point : Cond.initialized yX9_point.cls ∈ xw := xw_t1 11 rfl rfl
theorem imM_point : Cond.instanceMethod yX9_point ∈ xw := xw_t7 161 rfl rfl
theorem slM_point : Cond.selects RX9 yX9_point yX9_point ∈ xw := xw_t7 162 rfl rfl
theorem pmM_point : yX9_point.cls ≠ "java/lang/invoke/MethodHandle" ∧ yX9_point.cls ≠ "java/lang/invoke/VarHandle" ∧ (parseMethodDescriptor yX9_point.desc).map (fun d => d.parameters.length + 1) = some 4 := by decide +kernel
theorem cdD_turn : Cond.code yX8_turn cX8_turn 4 (some .int) ∈ xw := xw_t4 50 rfl rfl
theorem inD_turn : Cond.initialized yX8_turn.cls ∈ xw := xw_t1 1 rfl rfl
theorem imD_turn : Cond.instanceMethod yX8_turn ∈ xw := xw_t4 48 rfl rfl
theorem slD_turn : Cond.selects RX8 yX8_turn yX8_turn ∈ xw := xw_t4 49 rfl rfl
theorem pmD_turn : yX8_turn.cls ≠ "java/lang/invoke/MethodHandle" ∧ yX8_turn.cls ≠ "java/lang/invoke/VarHandle" ∧ (parseMethodDescriptor yX8_turn.desc).map (fun d => d.parameters.length + 1) = some 3 := by decide +kernel
theorem lkD_263 : Cond.methodLink RX8 263 yX3_turnAt ∈ xw := xw_t4 51 rfl rfl
theorem cdM_turn : Cond.code yX9_turn cX9_turn 3 (some .int) ∈ xw := xw_t7 167 rfl rfl
theorem inM_turn : Cond.initialized yX9_turn.cls ∈ xw := xw_t1 11 rfl rfl
theorem imM_turn : Cond.instanceMethod yX9_turn ∈ xw := xw_t7 165 rfl rfl
theorem slM_turn : Cond.selects RX9 yX9_turn yX9_turn ∈ xw := xw_t7 166 rfl rfl
theorem pmM_turn : yX9_turn.cls ≠ "java/lang/invoke/MethodHandle" ∧ yX9_turn.cls ≠ "java/lang/invoke/VarHandle" ∧ (parseMethodDescriptor yX9_turn.desc).map (fun d => d.parameters.length + 1) = some 3 := by decide +kernel
theorem cdLn_wayToStep : Cond.code yX3_wayToStep cX3_wayToStep 4 (some .int) ∈ xw := xw_t4 62 rfl rfl
theorem inLn_wayToStep : Cond.initialized yX3_wayToStep.cls ∈ xw := xw_t1 6 rfl rfl
theorem imLn_wayToStep : Cond.instanceMethod yX3_wayToStep ∈ xw := xw_t4 60 rfl rfl
theorem slLn_wayToStep : Cond.selects RX3 yX3_wayToStep yX3_wayToStep ∈ xw := xw_t4 61 rfl rfl
theorem pmLn_wayToStep : yX3_wayToStep.cls ≠ "java/lang/invoke/MethodHandle" ∧ yX3_wayToStep.cls ≠ "java/lang/invoke/VarHandle" ∧ (parseMethodDescriptor yX3_wayToStep.desc).map (fun d => d.parameters.length + 1) = some 2 := by decide +kernel
theorem cdD_station : Cond.code yX8_station cX8_station 6 (some .int) ∈ xw := xw_t4 55 rfl rfl
theorem inD_station : Cond.initialized yX8_station.cls ∈ xw := xw_t1 1 rfl rfl
theorem imD_station : Cond.instanceMethod yX8_station ∈ xw := xw_t4 53 rfl rfl
theorem slD_station : Cond.selects RX8 yX8_station yX8_station ∈ xw := xw_t4 54 rfl rfl
theorem pmD_station : yX8_station.cls ≠ "java/lang/invoke/MethodHandle" ∧ yX8_station.cls ≠ "java/lang/invoke/VarHandle" ∧ (parseMethodDescriptor yX8_station.desc).map (fun d => d.parameters.length + 1) = some 4 := by decide +kernel
theorem lkD_266 : Cond.methodLink RX8 266 yX8_columnOf ∈ xw ∨ ∃ host, Cond.methodLinkNest RX8 266 yX8_columnOf host ∈ xnw := Or.inl (xw_t4 56 rfl rfl)
theorem lkD_269 : Cond.methodLink RX8 269 yX8_rowOf ∈ xw ∨ ∃ host, Cond.methodLinkNest RX8 269 yX8_rowOf host ∈ xnw := Or.inl (xw_t4 57 rfl rfl)
theorem lkD_272 : Cond.methodLink RX8 272 yX3_stepOfStation ∈ xw := xw_t4 58 rfl rfl
theorem lkD_275 : Cond.methodLink RX8 275 yX3_wayToStep ∈ xw := xw_t4 59 rfl rfl
theorem lkD_278 : Cond.methodLink RX8 278 yX3_longOf ∈ xw := xw_t4 63 rfl rfl
theorem cdM_wayOfStation : Cond.code yX9_wayOfStation cX9_wayOfStation 6 (some .int) ∈ xw := xw_t7 175 rfl rfl
theorem inM_wayOfStation : Cond.initialized yX9_wayOfStation.cls ∈ xw := xw_t1 11 rfl rfl
theorem imM_wayOfStation : Cond.instanceMethod yX9_wayOfStation ∈ xw := xw_t7 174 rfl rfl
theorem slM_wayOfStation : Cond.selects RX9 yX9_wayOfStation yX9_wayOfStation ∈ xw := xw_p7 14 44 rfl rfl
theorem pmM_wayOfStation : yX9_wayOfStation.cls ≠ "java/lang/invoke/MethodHandle" ∧ yX9_wayOfStation.cls ≠ "java/lang/invoke/VarHandle" ∧ (parseMethodDescriptor yX9_wayOfStation.desc).map (fun d => d.parameters.length + 1) = some 3 := by decide +kernel
theorem cdM_station : Cond.code yX9_station cX9_station 5 (some .int) ∈ xw := xw_t7 171 rfl rfl
theorem inM_station : Cond.initialized yX9_station.cls ∈ xw := xw_t1 11 rfl rfl
theorem imM_station : Cond.instanceMethod yX9_station ∈ xw := xw_t7 169 rfl rfl
theorem slM_station : Cond.selects RX9 yX9_station yX9_station ∈ xw := xw_t7 170 rfl rfl
theorem pmM_station : yX9_station.cls ≠ "java/lang/invoke/MethodHandle" ∧ yX9_station.cls ≠ "java/lang/invoke/VarHandle" ∧ (parseMethodDescriptor yX9_station.desc).map (fun d => d.parameters.length + 1) = some 4 := by decide +kernel
theorem lkM_439 : Cond.methodLink RX9 439 yX9_wayOfStation ∈ xw := xw_t7 172 rfl rfl
theorem cdD_at : Cond.code yX8_at cX8_at 4 (some .int) ∈ xw := xw_t4 67 rfl rfl
theorem inD_at : Cond.initialized yX8_at.cls ∈ xw := xw_t1 1 rfl rfl
theorem imD_at : Cond.instanceMethod yX8_at ∈ xw := xw_t4 65 rfl rfl
theorem slD_at : Cond.selects RX8 yX8_at yX8_at ∈ xw := xw_t4 66 rfl rfl
theorem pmD_at : yX8_at.cls ≠ "java/lang/invoke/MethodHandle" ∧ yX8_at.cls ≠ "java/lang/invoke/VarHandle" ∧ (parseMethodDescriptor yX8_at.desc).map (fun d => d.parameters.length + 1) = some 3 := by decide +kernel
theorem lkD_284 : Cond.methodLink RX8 284 yX8_cellAt ∈ xw ∨ ∃ host, Cond.methodLinkNest RX8 284 yX8_cellAt host ∈ xnw := Or.inl (xw_t4 68 rfl rfl)
theorem cdM_at : Cond.code yX9_at cX9_at 3 (some .int) ∈ xw := xw_t7 179 rfl rfl
theorem inM_at : Cond.initialized yX9_at.cls ∈ xw := xw_t1 11 rfl rfl
theorem imM_at : Cond.instanceMethod yX9_at ∈ xw := xw_t7 177 rfl rfl
theorem slM_at : Cond.selects RX9 yX9_at yX9_at ∈ xw := xw_t7 178 rfl rfl
theorem pmM_at : yX9_at.cls ≠ "java/lang/invoke/MethodHandle" ∧ yX9_at.cls ≠ "java/lang/invoke/VarHandle" ∧ (parseMethodDescriptor yX9_at.desc).map (fun d => d.parameters.length + 1) = some 3 := by decide +kernel
theorem cdD_linesAt : Cond.code yX8_linesAt cX8_linesAt 3 (some .int) ∈ xw := xw_t4 72 rfl rfl
theorem inD_linesAt : Cond.initialized yX8_linesAt.cls ∈ xw := xw_t1 1 rfl rfl
theorem imD_linesAt : Cond.instanceMethod yX8_linesAt ∈ xw := xw_t4 70 rfl rfl
theorem slD_linesAt : Cond.selects RX8 yX8_linesAt yX8_linesAt ∈ xw := xw_t4 71 rfl rfl
theorem pmD_linesAt : yX8_linesAt.cls ≠ "java/lang/invoke/MethodHandle" ∧ yX8_linesAt.cls ≠ "java/lang/invoke/VarHandle" ∧ (parseMethodDescriptor yX8_linesAt.desc).map (fun d => d.parameters.length + 1) = some 3 := by decide +kernel
theorem cdM_linesAt : Cond.code yX9_linesAt cX9_linesAt 3 (some .int) ∈ xw := xw_t7 183 rfl rfl
theorem inM_linesAt : Cond.initialized yX9_linesAt.cls ∈ xw := xw_t1 11 rfl rfl
theorem imM_linesAt : Cond.instanceMethod yX9_linesAt ∈ xw := xw_t7 181 rfl rfl
theorem slM_linesAt : Cond.selects RX9 yX9_linesAt yX9_linesAt ∈ xw := xw_t7 182 rfl rfl
theorem pmM_linesAt : yX9_linesAt.cls ≠ "java/lang/invoke/MethodHandle" ∧ yX9_linesAt.cls ≠ "java/lang/invoke/VarHandle" ∧ (parseMethodDescriptor yX9_linesAt.desc).map (fun d => d.parameters.length + 1) = some 3 := by decide +kernel
theorem cdLn_unevenness : Cond.code yX3_unevenness cX3_unevenness 6 (some .int) ∈ xw := xw_t4 80 rfl rfl
theorem inLn_unevenness : Cond.initialized yX3_unevenness.cls ∈ xw := xw_t1 6 rfl rfl
theorem imLn_unevenness : Cond.instanceMethod yX3_unevenness ∈ xw := xw_t4 78 rfl rfl
theorem slLn_unevenness : Cond.selects RX3 yX3_unevenness yX3_unevenness ∈ xw := xw_t4 79 rfl rfl
theorem pmLn_unevenness : yX3_unevenness.cls ≠ "java/lang/invoke/MethodHandle" ∧ yX3_unevenness.cls ≠ "java/lang/invoke/VarHandle" ∧ (parseMethodDescriptor yX3_unevenness.desc).map (fun d => d.parameters.length + 1) = some 1 := by decide +kernel
theorem lkLn_77 : Cond.methodLink RX3 77 yX3_stepOfStation ∈ xw := xw_t4 81 rfl rfl
theorem cdD_uneven : Cond.code yX8_uneven cX8_uneven 2 (some .int) ∈ xw := xw_t4 76 rfl rfl
theorem inD_uneven : Cond.initialized yX8_uneven.cls ∈ xw := xw_t1 1 rfl rfl
theorem imD_uneven : Cond.instanceMethod yX8_uneven ∈ xw := xw_t4 74 rfl rfl
theorem slD_uneven : Cond.selects RX8 yX8_uneven yX8_uneven ∈ xw := xw_t4 75 rfl rfl
theorem pmD_uneven : yX8_uneven.cls ≠ "java/lang/invoke/MethodHandle" ∧ yX8_uneven.cls ≠ "java/lang/invoke/VarHandle" ∧ (parseMethodDescriptor yX8_uneven.desc).map (fun d => d.parameters.length + 1) = some 2 := by decide +kernel
theorem lkD_291 : Cond.methodLink RX8 291 yX3_unevenness ∈ xw := xw_t4 77 rfl rfl
theorem cdM_uneven : Cond.code yX9_uneven cX9_uneven 6 (some .int) ∈ xw := xw_t7 187 rfl rfl
theorem inM_uneven : Cond.initialized yX9_uneven.cls ∈ xw := xw_t1 11 rfl rfl
theorem imM_uneven : Cond.instanceMethod yX9_uneven ∈ xw := xw_t7 185 rfl rfl
theorem slM_uneven : Cond.selects RX9 yX9_uneven yX9_uneven ∈ xw := xw_t7 186 rfl rfl
theorem pmM_uneven : yX9_uneven.cls ≠ "java/lang/invoke/MethodHandle" ∧ yX9_uneven.cls ≠ "java/lang/invoke/VarHandle" ∧ (parseMethodDescriptor yX9_uneven.desc).map (fun d => d.parameters.length + 1) = some 2 := by decide +kernel
theorem cdD_crookedest : Cond.code yX8_crookedest cX8_crookedest 5 (some .int) ∈ xw := xw_t4 85 rfl rfl
theorem inD_crookedest : Cond.initialized yX8_crookedest.cls ∈ xw := xw_t1 1 rfl rfl
theorem imD_crookedest : Cond.instanceMethod yX8_crookedest ∈ xw := xw_t4 83 rfl rfl
theorem slD_crookedest : Cond.selects RX8 yX8_crookedest yX8_crookedest ∈ xw := xw_t4 84 rfl rfl
theorem pmD_crookedest : yX8_crookedest.cls ≠ "java/lang/invoke/MethodHandle" ∧ yX8_crookedest.cls ≠ "java/lang/invoke/VarHandle" ∧ (parseMethodDescriptor yX8_crookedest.desc).map (fun d => d.parameters.length + 1) = some 1 := by decide +kernel
theorem cdM_crookedest : Cond.code yX9_crookedest cX9_crookedest 3 (some .int) ∈ xw := xw_t7 192 rfl rfl
theorem inM_crookedest : Cond.initialized yX9_crookedest.cls ∈ xw := xw_t1 11 rfl rfl
theorem imM_crookedest : Cond.instanceMethod yX9_crookedest ∈ xw := xw_t7 190 rfl rfl
theorem slM_crookedest : Cond.selects RX9 yX9_crookedest yX9_crookedest ∈ xw := xw_t7 191 rfl rfl
theorem pmM_crookedest : yX9_crookedest.cls ≠ "java/lang/invoke/MethodHandle" ∧ yX9_crookedest.cls ≠ "java/lang/invoke/VarHandle" ∧ (parseMethodDescriptor yX9_crookedest.desc).map (fun d => d.parameters.length + 1) = some 1 := by decide +kernel
theorem cdD_codeOf : Cond.code yX8_codeOf cX8_codeOf 1 (some .int) ∈ xw := xw_t4 97 rfl rfl
theorem inD_codeOf : Cond.initialized yX8_codeOf.cls ∈ xw := xw_t1 1 rfl rfl
theorem imD_codeOf : Cond.static yX8_codeOf ∈ xw := xw_t4 96 rfl rfl
theorem pmD_codeOf : yX8_codeOf.cls ≠ "java/lang/invoke/MethodHandle" ∧ yX8_codeOf.cls ≠ "java/lang/invoke/VarHandle" ∧ (parseMethodDescriptor yX8_codeOf.desc).map (fun d => d.parameters.length) = some 1 := by decide +kernel
theorem cdB_nearestPlace : Cond.code yX0_nearestPlace cX0_nearestPlace 7 (some .int) ∈ xw := xw_t4 93 rfl rfl
theorem inB_nearestPlace : Cond.initialized yX0_nearestPlace.cls ∈ xw := xw_t1 8 rfl rfl
theorem imB_nearestPlace : Cond.instanceMethod yX0_nearestPlace ∈ xw := xw_t4 91 rfl rfl
theorem slB_nearestPlace : Cond.selects RX0 yX0_nearestPlace yX0_nearestPlace ∈ xw := xw_t4 92 rfl rfl
theorem pmB_nearestPlace : yX0_nearestPlace.cls ≠ "java/lang/invoke/MethodHandle" ∧ yX0_nearestPlace.cls ≠ "java/lang/invoke/VarHandle" ∧ (parseMethodDescriptor yX0_nearestPlace.desc).map (fun d => d.parameters.length + 1) = some 3 := by decide +kernel
theorem lkB_138 : Cond.methodLink RX0 138 yX8_codeOf ∈ xw ∨ ∃ host, Cond.methodLinkNest RX0 138 yX8_codeOf host ∈ xnw := Or.inr ⟨"LineDiagram", List.mem_of_getElem? (i := 14) rfl⟩
theorem cdD_nearest : Cond.code yX8_nearest cX8_nearest 3 (some .int) ∈ xw := xw_t4 89 rfl rfl
theorem inD_nearest : Cond.initialized yX8_nearest.cls ∈ xw := xw_t1 1 rfl rfl
theorem imD_nearest : Cond.instanceMethod yX8_nearest ∈ xw := xw_t4 87 rfl rfl
theorem slD_nearest : Cond.selects RX8 yX8_nearest yX8_nearest ∈ xw := xw_t4 88 rfl rfl
theorem pmD_nearest : yX8_nearest.cls ≠ "java/lang/invoke/MethodHandle" ∧ yX8_nearest.cls ≠ "java/lang/invoke/VarHandle" ∧ (parseMethodDescriptor yX8_nearest.desc).map (fun d => d.parameters.length + 1) = some 3 := by decide +kernel
theorem lkD_294 : Cond.methodLink RX8 294 yX0_nearestPlace ∈ xw := xw_t4 90 rfl rfl
theorem cdM_told : Cond.code yX9_told cX9_told 1 (some .int) ∈ xw := xw_t7 199 rfl rfl
theorem inM_told : Cond.initialized yX9_told.cls ∈ xw := xw_t1 11 rfl rfl
theorem imM_told : Cond.static yX9_told ∈ xw := xw_t7 198 rfl rfl
theorem pmM_told : yX9_told.cls ≠ "java/lang/invoke/MethodHandle" ∧ yX9_told.cls ≠ "java/lang/invoke/VarHandle" ∧ (parseMethodDescriptor yX9_told.desc).map (fun d => d.parameters.length) = some 1 := by decide +kernel
theorem cdM_nearest : Cond.code yX9_nearest cX9_nearest 9 (some .int) ∈ xw := xw_t7 196 rfl rfl
theorem inM_nearest : Cond.initialized yX9_nearest.cls ∈ xw := xw_t1 11 rfl rfl
theorem imM_nearest : Cond.instanceMethod yX9_nearest ∈ xw := xw_t7 194 rfl rfl
theorem slM_nearest : Cond.selects RX9 yX9_nearest yX9_nearest ∈ xw := xw_t7 195 rfl rfl
theorem pmM_nearest : yX9_nearest.cls ≠ "java/lang/invoke/MethodHandle" ∧ yX9_nearest.cls ≠ "java/lang/invoke/VarHandle" ∧ (parseMethodDescriptor yX9_nearest.desc).map (fun d => d.parameters.length + 1) = some 3 := by decide +kernel
theorem lkM_443 : Cond.methodLink RX9 443 yX9_told ∈ xw ∨ ∃ host, Cond.methodLinkNest RX9 443 yX9_told host ∈ xnw := Or.inl (xw_t7 197 rfl rfl)
theorem cdB_countOfTwo : Cond.code yX0_countOfTwo cX0_countOfTwo 7 (some .int) ∈ xw := xw_t4 108 rfl rfl
theorem inB_countOfTwo : Cond.initialized yX0_countOfTwo.cls ∈ xw := xw_t1 8 rfl rfl
theorem imB_countOfTwo : Cond.static yX0_countOfTwo ∈ xw := xw_t4 107 rfl rfl
theorem pmB_countOfTwo : yX0_countOfTwo.cls ≠ "java/lang/invoke/MethodHandle" ∧ yX0_countOfTwo.cls ≠ "java/lang/invoke/VarHandle" ∧ (parseMethodDescriptor yX0_countOfTwo.desc).map (fun d => d.parameters.length) = some 2 := by decide +kernel
theorem cdB_countShared : Cond.code yX0_countShared cX0_countShared 2 (some .int) ∈ xw := xw_t4 105 rfl rfl
theorem inB_countShared : Cond.initialized yX0_countShared.cls ∈ xw := xw_t1 8 rfl rfl
theorem imB_countShared : Cond.instanceMethod yX0_countShared ∈ xw := xw_t4 103 rfl rfl
theorem slB_countShared : Cond.selects RX0 yX0_countShared yX0_countShared ∈ xw := xw_t4 104 rfl rfl
theorem pmB_countShared : yX0_countShared.cls ≠ "java/lang/invoke/MethodHandle" ∧ yX0_countShared.cls ≠ "java/lang/invoke/VarHandle" ∧ (parseMethodDescriptor yX0_countShared.desc).map (fun d => d.parameters.length + 1) = some 2 := by decide +kernel
theorem lkB_126 : Cond.methodLink RX0 126 yX0_countOfTwo ∈ xw ∨ ∃ host, Cond.methodLinkNest RX0 126 yX0_countOfTwo host ∈ xnw := Or.inl (xw_t4 106 rfl rfl)
theorem cdB_countSharedPlaces : Cond.code yX0_countSharedPlaces cX0_countSharedPlaces 2 (some .int) ∈ xw := xw_t4 112 rfl rfl
theorem inB_countSharedPlaces : Cond.initialized yX0_countSharedPlaces.cls ∈ xw := xw_t1 8 rfl rfl
theorem imB_countSharedPlaces : Cond.instanceMethod yX0_countSharedPlaces ∈ xw := xw_t4 110 rfl rfl
theorem slB_countSharedPlaces : Cond.selects RX0 yX0_countSharedPlaces yX0_countSharedPlaces ∈ xw := xw_t4 111 rfl rfl
theorem pmB_countSharedPlaces : yX0_countSharedPlaces.cls ≠ "java/lang/invoke/MethodHandle" ∧ yX0_countSharedPlaces.cls ≠ "java/lang/invoke/VarHandle" ∧ (parseMethodDescriptor yX0_countSharedPlaces.desc).map (fun d => d.parameters.length + 1) = some 2 := by decide +kernel
theorem cdD_both : Cond.code yX8_both cX8_both 5 (some .int) ∈ xw := xw_t4 101 rfl rfl
theorem inD_both : Cond.initialized yX8_both.cls ∈ xw := xw_t1 1 rfl rfl
theorem imD_both : Cond.instanceMethod yX8_both ∈ xw := xw_t4 99 rfl rfl
theorem slD_both : Cond.selects RX8 yX8_both yX8_both ∈ xw := xw_t4 100 rfl rfl
theorem pmD_both : yX8_both.cls ≠ "java/lang/invoke/MethodHandle" ∧ yX8_both.cls ≠ "java/lang/invoke/VarHandle" ∧ (parseMethodDescriptor yX8_both.desc).map (fun d => d.parameters.length + 1) = some 4 := by decide +kernel
theorem lkD_297 : Cond.methodLink RX8 297 yX0_countShared ∈ xw := xw_t4 102 rfl rfl
theorem lkD_300 : Cond.methodLink RX8 300 yX0_countSharedPlaces ∈ xw := xw_t4 109 rfl rfl
theorem cdM_cellsOfBoth : Cond.code yX9_cellsOfBoth cX9_cellsOfBoth 6 (some .int) ∈ xw := xw_t7 208 rfl rfl
theorem inM_cellsOfBoth : Cond.initialized yX9_cellsOfBoth.cls ∈ xw := xw_t1 11 rfl rfl
theorem imM_cellsOfBoth : Cond.instanceMethod yX9_cellsOfBoth ∈ xw := xw_t7 207 rfl rfl
theorem slM_cellsOfBoth : Cond.selects RX9 yX9_cellsOfBoth yX9_cellsOfBoth ∈ xw := xw_p7 15 44 rfl rfl
theorem pmM_cellsOfBoth : yX9_cellsOfBoth.cls ≠ "java/lang/invoke/MethodHandle" ∧ yX9_cellsOfBoth.cls ≠ "java/lang/invoke/VarHandle" ∧ (parseMethodDescriptor yX9_cellsOfBoth.desc).map (fun d => d.parameters.length + 1) = some 3 := by decide +kernel
theorem cdM_both : Cond.code yX9_both cX9_both 4 (some .int) ∈ xw := xw_t7 203 rfl rfl
theorem inM_both : Cond.initialized yX9_both.cls ∈ xw := xw_t1 11 rfl rfl
theorem imM_both : Cond.instanceMethod yX9_both ∈ xw := xw_t7 201 rfl rfl
theorem slM_both : Cond.selects RX9 yX9_both yX9_both ∈ xw := xw_t7 202 rfl rfl
theorem pmM_both : yX9_both.cls ≠ "java/lang/invoke/MethodHandle" ∧ yX9_both.cls ≠ "java/lang/invoke/VarHandle" ∧ (parseMethodDescriptor yX9_both.desc).map (fun d => d.parameters.length + 1) = some 4 := by decide +kernel
theorem lkM_448 : Cond.methodLink RX9 448 yX9_cellsOfBoth ∈ xw := xw_t7 205 rfl rfl
theorem cdB_crossingOf : Cond.code yX0_crossingOf cX0_crossingOf 4 (some .int) ∈ xw := xw_t4 120 rfl rfl
theorem inB_crossingOf : Cond.initialized yX0_crossingOf.cls ∈ xw := xw_t1 8 rfl rfl
theorem imB_crossingOf : Cond.instanceMethod yX0_crossingOf ∈ xw := xw_t4 118 rfl rfl
theorem slB_crossingOf : Cond.selects RX0 yX0_crossingOf yX0_crossingOf ∈ xw := xw_t4 119 rfl rfl
theorem pmB_crossingOf : yX0_crossingOf.cls ≠ "java/lang/invoke/MethodHandle" ∧ yX0_crossingOf.cls ≠ "java/lang/invoke/VarHandle" ∧ (parseMethodDescriptor yX0_crossingOf.desc).map (fun d => d.parameters.length + 1) = some 2 := by decide +kernel
theorem cdD_crossing : Cond.code yX8_crossing cX8_crossing 2 (some .int) ∈ xw := xw_t4 116 rfl rfl
theorem inD_crossing : Cond.initialized yX8_crossing.cls ∈ xw := xw_t1 1 rfl rfl
theorem imD_crossing : Cond.instanceMethod yX8_crossing ∈ xw := xw_t4 114 rfl rfl
theorem slD_crossing : Cond.selects RX8 yX8_crossing yX8_crossing ∈ xw := xw_t4 115 rfl rfl
theorem pmD_crossing : yX8_crossing.cls ≠ "java/lang/invoke/MethodHandle" ∧ yX8_crossing.cls ≠ "java/lang/invoke/VarHandle" ∧ (parseMethodDescriptor yX8_crossing.desc).map (fun d => d.parameters.length + 1) = some 2 := by decide +kernel
theorem lkD_303 : Cond.methodLink RX8 303 yX0_crossingOf ∈ xw := xw_t4 117 rfl rfl
theorem cdM_crossing : Cond.code yX9_crossing cX9_crossing 4 (some .int) ∈ xw := xw_t7 212 rfl rfl
theorem inM_crossing : Cond.initialized yX9_crossing.cls ∈ xw := xw_t1 11 rfl rfl
theorem imM_crossing : Cond.instanceMethod yX9_crossing ∈ xw := xw_t7 210 rfl rfl
theorem slM_crossing : Cond.selects RX9 yX9_crossing yX9_crossing ∈ xw := xw_t7 211 rfl rfl
theorem pmM_crossing : yX9_crossing.cls ≠ "java/lang/invoke/MethodHandle" ∧ yX9_crossing.cls ≠ "java/lang/invoke/VarHandle" ∧ (parseMethodDescriptor yX9_crossing.desc).map (fun d => d.parameters.length + 1) = some 2 := by decide +kernel
theorem cdTv_reach : Cond.code yX7_reach cX7_reach 7 none ∈ xw := xw_t4 133 rfl rfl
theorem inTv_reach : Cond.initialized yX7_reach.cls ∈ xw := xw_t1 9 rfl rfl
theorem imTv_reach : Cond.instanceMethod yX7_reach ∈ xw := xw_t4 132 rfl rfl
theorem slTv_reach : Cond.selects RX7 yX7_reach yX7_reach ∈ xw := xw_p2 14 1 rfl rfl
theorem pmTv_reach : yX7_reach.cls ≠ "java/lang/invoke/MethodHandle" ∧ yX7_reach.cls ≠ "java/lang/invoke/VarHandle" ∧ (parseMethodDescriptor yX7_reach.desc).map (fun d => d.parameters.length + 1) = some 5 := by decide +kernel
theorem lkTv_48 : Cond.methodLink RX7 48 yX0_stationCell ∈ xw := xw_t4 134 rfl rfl
theorem cdTv_reachStation : Cond.code yX7_reachStation cX7_reachStation 6 (some .boolean) ∈ xw := xw_t4 142 rfl rfl
theorem inTv_reachStation : Cond.initialized yX7_reachStation.cls ∈ xw := xw_t1 9 rfl rfl
theorem imTv_reachStation : Cond.instanceMethod yX7_reachStation ∈ xw := xw_t4 141 rfl rfl
theorem slTv_reachStation : Cond.selects RX7 yX7_reachStation yX7_reachStation ∈ xw := xw_p3 0 1 rfl rfl
theorem pmTv_reachStation : yX7_reachStation.cls ≠ "java/lang/invoke/MethodHandle" ∧ yX7_reachStation.cls ≠ "java/lang/invoke/VarHandle" ∧ (parseMethodDescriptor yX7_reachStation.desc).map (fun d => d.parameters.length + 1) = some 6 := by decide +kernel
theorem lkTv_21 : Cond.methodLink RX7 21 yX7_reach ∈ xw := xw_t4 130 rfl rfl
theorem cdTv_rideOn : Cond.code yX7_rideOn cX7_rideOn 10 (some .boolean) ∈ xw := xw_t4 138 rfl rfl
theorem inTv_rideOn : Cond.initialized yX7_rideOn.cls ∈ xw := xw_t1 9 rfl rfl
theorem imTv_rideOn : Cond.instanceMethod yX7_rideOn ∈ xw := xw_t4 137 rfl rfl
theorem slTv_rideOn : Cond.selects RX7 yX7_rideOn yX7_rideOn ∈ xw := xw_p2 15 1 rfl rfl
theorem pmTv_rideOn : yX7_rideOn.cls ≠ "java/lang/invoke/MethodHandle" ∧ yX7_rideOn.cls ≠ "java/lang/invoke/VarHandle" ∧ (parseMethodDescriptor yX7_rideOn.desc).map (fun d => d.parameters.length + 1) = some 4 := by decide +kernel
theorem lkTv_44 : Cond.methodLink RX7 44 yX7_reachStation ∈ xw := xw_t4 139 rfl rfl
theorem cdTv_leastRides : Cond.code yX7_leastRides cX7_leastRides 9 (some .int) ∈ xw := xw_t4 128 rfl rfl
theorem inTv_leastRides : Cond.initialized yX7_leastRides.cls ∈ xw := xw_t1 9 rfl rfl
theorem imTv_leastRides : Cond.instanceMethod yX7_leastRides ∈ xw := xw_t4 126 rfl rfl
theorem slTv_leastRides : Cond.selects RX7 yX7_leastRides yX7_leastRides ∈ xw := xw_t4 127 rfl rfl
theorem pmTv_leastRides : yX7_leastRides.cls ≠ "java/lang/invoke/MethodHandle" ∧ yX7_leastRides.cls ≠ "java/lang/invoke/VarHandle" ∧ (parseMethodDescriptor yX7_leastRides.desc).map (fun d => d.parameters.length + 1) = some 6 := by decide +kernel
theorem lkTv_15 : Cond.methodLink RX7 15 yJ7_fill_53178 ∈ xw ∨ ∃ host, Cond.methodLinkNest RX7 15 yJ7_fill_53178 host ∈ xnw := Or.inl (xw_t4 129 rfl rfl)
theorem lkTv_25 : Cond.methodLink RX7 25 yX7_rideOn ∈ xw := xw_t4 135 rfl rfl
theorem cdD_rides : Cond.code yX8_rides cX8_rides 5 (some .int) ∈ xw := xw_t4 124 rfl rfl
theorem inD_rides : Cond.initialized yX8_rides.cls ∈ xw := xw_t1 1 rfl rfl
theorem imD_rides : Cond.instanceMethod yX8_rides ∈ xw := xw_t4 122 rfl rfl
theorem slD_rides : Cond.selects RX8 yX8_rides yX8_rides ∈ xw := xw_t4 123 rfl rfl
theorem pmD_rides : yX8_rides.cls ≠ "java/lang/invoke/MethodHandle" ∧ yX8_rides.cls ≠ "java/lang/invoke/VarHandle" ∧ (parseMethodDescriptor yX8_rides.desc).map (fun d => d.parameters.length + 1) = some 5 := by decide +kernel
theorem lkD_306 : Cond.methodLink RX8 306 yX7_leastRides ∈ xw := xw_t4 125 rfl rfl
theorem cdM_reaches : Cond.code yX9_reaches cX9_reaches 3 none ∈ xw := xw_t7 220 rfl rfl
theorem inM_reaches : Cond.initialized yX9_reaches.cls ∈ xw := xw_t1 11 rfl rfl
theorem imM_reaches : Cond.instanceMethod yX9_reaches ∈ xw := xw_t7 219 rfl rfl
theorem slM_reaches : Cond.selects RX9 yX9_reaches yX9_reaches ∈ xw := xw_p8 0 44 rfl rfl
theorem pmM_reaches : yX9_reaches.cls ≠ "java/lang/invoke/MethodHandle" ∧ yX9_reaches.cls ≠ "java/lang/invoke/VarHandle" ∧ (parseMethodDescriptor yX9_reaches.desc).map (fun d => d.parameters.length + 1) = some 3 := by decide +kernel
theorem cdM_ridesOn : Cond.code yX9_ridesOn cX9_ridesOn 4 none ∈ xw := xw_t7 224 rfl rfl
theorem inM_ridesOn : Cond.initialized yX9_ridesOn.cls ∈ xw := xw_t1 11 rfl rfl
theorem imM_ridesOn : Cond.instanceMethod yX9_ridesOn ∈ xw := xw_t7 223 rfl rfl
theorem slM_ridesOn : Cond.selects RX9 yX9_ridesOn yX9_ridesOn ∈ xw := xw_p8 1 44 rfl rfl
theorem pmM_ridesOn : yX9_ridesOn.cls ≠ "java/lang/invoke/MethodHandle" ∧ yX9_ridesOn.cls ≠ "java/lang/invoke/VarHandle" ∧ (parseMethodDescriptor yX9_ridesOn.desc).map (fun d => d.parameters.length + 1) = some 2 := by decide +kernel
theorem lkM_454 : Cond.methodLink RX9 454 yX9_reaches ∈ xw := xw_t7 217 rfl rfl
theorem cdM_rides : Cond.code yX9_rides cX9_rides 6 (some .int) ∈ xw := xw_t7 216 rfl rfl
theorem inM_rides : Cond.initialized yX9_rides.cls ∈ xw := xw_t1 11 rfl rfl
theorem imM_rides : Cond.instanceMethod yX9_rides ∈ xw := xw_t7 214 rfl rfl
theorem slM_rides : Cond.selects RX9 yX9_rides yX9_rides ∈ xw := xw_t7 215 rfl rfl
theorem pmM_rides : yX9_rides.cls ≠ "java/lang/invoke/MethodHandle" ∧ yX9_rides.cls ≠ "java/lang/invoke/VarHandle" ∧ (parseMethodDescriptor yX9_rides.desc).map (fun d => d.parameters.length + 1) = some 5 := by decide +kernel
theorem lkM_457 : Cond.methodLink RX9 457 yX9_ridesOn ∈ xw := xw_t7 221 rfl rfl
theorem cdTv_changeOn : Cond.code yX7_changeOn cX7_changeOn 7 (some .int) ∈ xw := xw_t4 154 rfl rfl
theorem inTv_changeOn : Cond.initialized yX7_changeOn.cls ∈ xw := xw_t1 9 rfl rfl
theorem imTv_changeOn : Cond.instanceMethod yX7_changeOn ∈ xw := xw_t4 153 rfl rfl
theorem slTv_changeOn : Cond.selects RX7 yX7_changeOn yX7_changeOn ∈ xw := xw_p3 1 1 rfl rfl
theorem pmTv_changeOn : yX7_changeOn.cls ≠ "java/lang/invoke/MethodHandle" ∧ yX7_changeOn.cls ≠ "java/lang/invoke/VarHandle" ∧ (parseMethodDescriptor yX7_changeOn.desc).map (fun d => d.parameters.length + 1) = some 4 := by decide +kernel
theorem cdTv_leastChanges : Cond.code yX7_leastChanges cX7_leastChanges 7 (some .int) ∈ xw := xw_t4 150 rfl rfl
theorem inTv_leastChanges : Cond.initialized yX7_leastChanges.cls ∈ xw := xw_t1 9 rfl rfl
theorem imTv_leastChanges : Cond.instanceMethod yX7_leastChanges ∈ xw := xw_t4 148 rfl rfl
theorem slTv_leastChanges : Cond.selects RX7 yX7_leastChanges yX7_leastChanges ∈ xw := xw_t4 149 rfl rfl
theorem pmTv_leastChanges : yX7_leastChanges.cls ≠ "java/lang/invoke/MethodHandle" ∧ yX7_leastChanges.cls ≠ "java/lang/invoke/VarHandle" ∧ (parseMethodDescriptor yX7_leastChanges.desc).map (fun d => d.parameters.length + 1) = some 5 := by decide +kernel
theorem lkTv_57 : Cond.methodLink RX7 57 yX7_changeOn ∈ xw := xw_t4 151 rfl rfl
theorem cdD_changes : Cond.code yX8_changes cX8_changes 5 (some .int) ∈ xw := xw_t4 146 rfl rfl
theorem inD_changes : Cond.initialized yX8_changes.cls ∈ xw := xw_t1 1 rfl rfl
theorem imD_changes : Cond.instanceMethod yX8_changes ∈ xw := xw_t4 144 rfl rfl
theorem slD_changes : Cond.selects RX8 yX8_changes yX8_changes ∈ xw := xw_t4 145 rfl rfl
theorem pmD_changes : yX8_changes.cls ≠ "java/lang/invoke/MethodHandle" ∧ yX8_changes.cls ≠ "java/lang/invoke/VarHandle" ∧ (parseMethodDescriptor yX8_changes.desc).map (fun d => d.parameters.length + 1) = some 5 := by decide +kernel
theorem lkD_310 : Cond.methodLink RX8 310 yX7_leastChanges ∈ xw := xw_t4 147 rfl rfl
theorem cdM_changesOn : Cond.code yX9_changesOn cX9_changesOn 4 (some .int) ∈ xw := xw_t7 232 rfl rfl
theorem inM_changesOn : Cond.initialized yX9_changesOn.cls ∈ xw := xw_t1 11 rfl rfl
theorem imM_changesOn : Cond.instanceMethod yX9_changesOn ∈ xw := xw_t7 231 rfl rfl
theorem slM_changesOn : Cond.selects RX9 yX9_changesOn yX9_changesOn ∈ xw := xw_p8 2 44 rfl rfl
theorem pmM_changesOn : yX9_changesOn.cls ≠ "java/lang/invoke/MethodHandle" ∧ yX9_changesOn.cls ≠ "java/lang/invoke/VarHandle" ∧ (parseMethodDescriptor yX9_changesOn.desc).map (fun d => d.parameters.length + 1) = some 2 := by decide +kernel
theorem cdM_changes : Cond.code yX9_changes cX9_changes 8 (some .int) ∈ xw := xw_t7 228 rfl rfl
theorem inM_changes : Cond.initialized yX9_changes.cls ∈ xw := xw_t1 11 rfl rfl
theorem imM_changes : Cond.instanceMethod yX9_changes ∈ xw := xw_t7 226 rfl rfl
theorem slM_changes : Cond.selects RX9 yX9_changes yX9_changes ∈ xw := xw_t7 227 rfl rfl
theorem pmM_changes : yX9_changes.cls ≠ "java/lang/invoke/MethodHandle" ∧ yX9_changes.cls ≠ "java/lang/invoke/VarHandle" ∧ (parseMethodDescriptor yX9_changes.desc).map (fun d => d.parameters.length + 1) = some 5 := by decide +kernel
theorem lkM_460 : Cond.methodLink RX9 460 yX9_changesOn ∈ xw := xw_t7 229 rfl rfl
theorem cdD_position : Cond.code yX8_position cX8_position 3 (some .int) ∈ xw := xw_t4 158 rfl rfl
theorem inD_position : Cond.initialized yX8_position.cls ∈ xw := xw_t1 1 rfl rfl
theorem imD_position : Cond.instanceMethod yX8_position ∈ xw := xw_t4 156 rfl rfl
theorem slD_position : Cond.selects RX8 yX8_position yX8_position ∈ xw := xw_t4 157 rfl rfl
theorem pmD_position : yX8_position.cls ≠ "java/lang/invoke/MethodHandle" ∧ yX8_position.cls ≠ "java/lang/invoke/VarHandle" ∧ (parseMethodDescriptor yX8_position.desc).map (fun d => d.parameters.length + 1) = some 3 := by decide +kernel
theorem cdM_position : Cond.code yX9_position cX9_position 3 (some .int) ∈ xw := xw_t7 236 rfl rfl
theorem inM_position : Cond.initialized yX9_position.cls ∈ xw := xw_t1 11 rfl rfl
theorem imM_position : Cond.instanceMethod yX9_position ∈ xw := xw_t7 234 rfl rfl
theorem slM_position : Cond.selects RX9 yX9_position yX9_position ∈ xw := xw_t7 235 rfl rfl
theorem pmM_position : yX9_position.cls ≠ "java/lang/invoke/MethodHandle" ∧ yX9_position.cls ≠ "java/lang/invoke/VarHandle" ∧ (parseMethodDescriptor yX9_position.desc).map (fun d => d.parameters.length + 1) = some 3 := by decide +kernel
theorem cdD_why : Cond.code yX8_why cX8_why 4 (some .int) ∈ xw := xw_t4 162 rfl rfl
theorem inD_why : Cond.initialized yX8_why.cls ∈ xw := xw_t1 1 rfl rfl
theorem imD_why : Cond.instanceMethod yX8_why ∈ xw := xw_t4 160 rfl rfl
theorem slD_why : Cond.selects RX8 yX8_why yX8_why ∈ xw := xw_t4 161 rfl rfl
theorem pmD_why : yX8_why.cls ≠ "java/lang/invoke/MethodHandle" ∧ yX8_why.cls ≠ "java/lang/invoke/VarHandle" ∧ (parseMethodDescriptor yX8_why.desc).map (fun d => d.parameters.length + 1) = some 4 := by decide +kernel
theorem cdM_why : Cond.code yX9_why cX9_why 4 (some .int) ∈ xw := xw_t8 0 rfl rfl
theorem inM_why : Cond.initialized yX9_why.cls ∈ xw := xw_t1 11 rfl rfl
theorem imM_why : Cond.instanceMethod yX9_why ∈ xw := xw_t7 238 rfl rfl
theorem slM_why : Cond.selects RX9 yX9_why yX9_why ∈ xw := xw_t7 239 rfl rfl
theorem pmM_why : yX9_why.cls ≠ "java/lang/invoke/MethodHandle" ∧ yX9_why.cls ≠ "java/lang/invoke/VarHandle" ∧ (parseMethodDescriptor yX9_why.desc).map (fun d => d.parameters.length + 1) = some 4 := by decide +kernel
theorem cdD_free : Cond.code yX8_free cX8_free 6 (some .int) ∈ xw := xw_t4 166 rfl rfl
theorem inD_free : Cond.initialized yX8_free.cls ∈ xw := xw_t1 1 rfl rfl
theorem imD_free : Cond.instanceMethod yX8_free ∈ xw := xw_t4 164 rfl rfl
theorem slD_free : Cond.selects RX8 yX8_free yX8_free ∈ xw := xw_t4 165 rfl rfl
theorem pmD_free : yX8_free.cls ≠ "java/lang/invoke/MethodHandle" ∧ yX8_free.cls ≠ "java/lang/invoke/VarHandle" ∧ (parseMethodDescriptor yX8_free.desc).map (fun d => d.parameters.length + 1) = some 3 := by decide +kernel
theorem cdM_free : Cond.code yX9_free cX9_free 5 (some .int) ∈ xw := xw_t8 4 rfl rfl
theorem inM_free : Cond.initialized yX9_free.cls ∈ xw := xw_t1 11 rfl rfl
theorem imM_free : Cond.instanceMethod yX9_free ∈ xw := xw_t8 2 rfl rfl
theorem slM_free : Cond.selects RX9 yX9_free yX9_free ∈ xw := xw_t8 3 rfl rfl
theorem pmM_free : yX9_free.cls ≠ "java/lang/invoke/MethodHandle" ∧ yX9_free.cls ≠ "java/lang/invoke/VarHandle" ∧ (parseMethodDescriptor yX9_free.desc).map (fun d => d.parameters.length + 1) = some 3 := by decide +kernel
theorem cdD_labelAt : Cond.code yX8_labelAt cX8_labelAt 4 (some .int) ∈ xw := xw_t4 170 rfl rfl
theorem inD_labelAt : Cond.initialized yX8_labelAt.cls ∈ xw := xw_t1 1 rfl rfl
theorem imD_labelAt : Cond.instanceMethod yX8_labelAt ∈ xw := xw_t4 168 rfl rfl
theorem slD_labelAt : Cond.selects RX8 yX8_labelAt yX8_labelAt ∈ xw := xw_t4 169 rfl rfl
theorem pmD_labelAt : yX8_labelAt.cls ≠ "java/lang/invoke/MethodHandle" ∧ yX8_labelAt.cls ≠ "java/lang/invoke/VarHandle" ∧ (parseMethodDescriptor yX8_labelAt.desc).map (fun d => d.parameters.length + 1) = some 3 := by decide +kernel
theorem lkD_314 : Cond.methodLink RX8 314 yX8_codeOf ∈ xw ∨ ∃ host, Cond.methodLinkNest RX8 314 yX8_codeOf host ∈ xnw := Or.inl (xw_t4 171 rfl rfl)
theorem cdM_labelAt : Cond.code yX9_labelAt cX9_labelAt 3 (some .int) ∈ xw := xw_t8 8 rfl rfl
theorem inM_labelAt : Cond.initialized yX9_labelAt.cls ∈ xw := xw_t1 11 rfl rfl
theorem imM_labelAt : Cond.instanceMethod yX9_labelAt ∈ xw := xw_t8 6 rfl rfl
theorem slM_labelAt : Cond.selects RX9 yX9_labelAt yX9_labelAt ∈ xw := xw_t8 7 rfl rfl
theorem pmM_labelAt : yX9_labelAt.cls ≠ "java/lang/invoke/MethodHandle" ∧ yX9_labelAt.cls ≠ "java/lang/invoke/VarHandle" ∧ (parseMethodDescriptor yX9_labelAt.desc).map (fun d => d.parameters.length + 1) = some 3 := by decide +kernel
theorem cdD_stuck : Cond.code yX8_stuck cX8_stuck 3 (some .int) ∈ xw := xw_t4 175 rfl rfl
theorem inD_stuck : Cond.initialized yX8_stuck.cls ∈ xw := xw_t1 1 rfl rfl
theorem imD_stuck : Cond.instanceMethod yX8_stuck ∈ xw := xw_t4 173 rfl rfl
theorem slD_stuck : Cond.selects RX8 yX8_stuck yX8_stuck ∈ xw := xw_t4 174 rfl rfl
theorem pmD_stuck : yX8_stuck.cls ≠ "java/lang/invoke/MethodHandle" ∧ yX8_stuck.cls ≠ "java/lang/invoke/VarHandle" ∧ (parseMethodDescriptor yX8_stuck.desc).map (fun d => d.parameters.length + 1) = some 1 := by decide +kernel
theorem cdM_stuck : Cond.code yX9_stuck cX9_stuck 3 (some .int) ∈ xw := xw_t8 12 rfl rfl
theorem inM_stuck : Cond.initialized yX9_stuck.cls ∈ xw := xw_t1 11 rfl rfl
theorem imM_stuck : Cond.instanceMethod yX9_stuck ∈ xw := xw_t8 10 rfl rfl
theorem slM_stuck : Cond.selects RX9 yX9_stuck yX9_stuck ∈ xw := xw_t8 11 rfl rfl
theorem pmM_stuck : yX9_stuck.cls ≠ "java/lang/invoke/MethodHandle" ∧ yX9_stuck.cls ≠ "java/lang/invoke/VarHandle" ∧ (parseMethodDescriptor yX9_stuck.desc).map (fun d => d.parameters.length + 1) = some 1 := by decide +kernel
theorem cdD_ifMoved : Cond.code yX8_ifMoved cX8_ifMoved 8 (some .int) ∈ xw := xw_t4 179 rfl rfl
theorem inD_ifMoved : Cond.initialized yX8_ifMoved.cls ∈ xw := xw_t1 1 rfl rfl
theorem imD_ifMoved : Cond.instanceMethod yX8_ifMoved ∈ xw := xw_t4 177 rfl rfl
theorem slD_ifMoved : Cond.selects RX8 yX8_ifMoved yX8_ifMoved ∈ xw := xw_t4 178 rfl rfl
theorem pmD_ifMoved : yX8_ifMoved.cls ≠ "java/lang/invoke/MethodHandle" ∧ yX8_ifMoved.cls ≠ "java/lang/invoke/VarHandle" ∧ (parseMethodDescriptor yX8_ifMoved.desc).map (fun d => d.parameters.length + 1) = some 6 := by decide +kernel
theorem cdM_moves : Cond.code yX9_moves cX9_moves 6 (some .int) ∈ xw := xw_t8 21 rfl rfl
theorem inM_moves : Cond.initialized yX9_moves.cls ∈ xw := xw_t1 11 rfl rfl
theorem imM_moves : Cond.instanceMethod yX9_moves ∈ xw := xw_t8 20 rfl rfl
theorem slM_moves : Cond.selects RX9 yX9_moves yX9_moves ∈ xw := xw_p8 3 44 rfl rfl
theorem pmM_moves : yX9_moves.cls ≠ "java/lang/invoke/MethodHandle" ∧ yX9_moves.cls ≠ "java/lang/invoke/VarHandle" ∧ (parseMethodDescriptor yX9_moves.desc).map (fun d => d.parameters.length + 1) = some 5 := by decide +kernel
theorem cdM_ifMoved : Cond.code yX9_ifMoved cX9_ifMoved 7 (some .int) ∈ xw := xw_t8 16 rfl rfl
theorem inM_ifMoved : Cond.initialized yX9_ifMoved.cls ∈ xw := xw_t1 11 rfl rfl
theorem imM_ifMoved : Cond.instanceMethod yX9_ifMoved ∈ xw := xw_t8 14 rfl rfl
theorem slM_ifMoved : Cond.selects RX9 yX9_ifMoved yX9_ifMoved ∈ xw := xw_t8 15 rfl rfl
theorem pmM_ifMoved : yX9_ifMoved.cls ≠ "java/lang/invoke/MethodHandle" ∧ yX9_ifMoved.cls ≠ "java/lang/invoke/VarHandle" ∧ (parseMethodDescriptor yX9_ifMoved.desc).map (fun d => d.parameters.length + 1) = some 6 := by decide +kernel
theorem lkM_465 : Cond.methodLink RX9 465 yX9_moves ∈ xw := xw_t8 18 rfl rfl
theorem cdD_bestMove : Cond.code yX8_bestMove cX8_bestMove 9 (some .int) ∈ xw := xw_t4 183 rfl rfl
theorem inD_bestMove : Cond.initialized yX8_bestMove.cls ∈ xw := xw_t1 1 rfl rfl
theorem imD_bestMove : Cond.instanceMethod yX8_bestMove ∈ xw := xw_t4 181 rfl rfl
theorem slD_bestMove : Cond.selects RX8 yX8_bestMove yX8_bestMove ∈ xw := xw_t4 182 rfl rfl
theorem pmD_bestMove : yX8_bestMove.cls ≠ "java/lang/invoke/MethodHandle" ∧ yX8_bestMove.cls ≠ "java/lang/invoke/VarHandle" ∧ (parseMethodDescriptor yX8_bestMove.desc).map (fun d => d.parameters.length + 1) = some 3 := by decide +kernel
theorem cdM_bestMove : Cond.code yX9_bestMove cX9_bestMove 7 (some .int) ∈ xw := xw_t8 25 rfl rfl
theorem inM_bestMove : Cond.initialized yX9_bestMove.cls ∈ xw := xw_t1 11 rfl rfl
theorem imM_bestMove : Cond.instanceMethod yX9_bestMove ∈ xw := xw_t8 23 rfl rfl
theorem slM_bestMove : Cond.selects RX9 yX9_bestMove yX9_bestMove ∈ xw := xw_t8 24 rfl rfl
theorem pmM_bestMove : yX9_bestMove.cls ≠ "java/lang/invoke/MethodHandle" ∧ yX9_bestMove.cls ≠ "java/lang/invoke/VarHandle" ∧ (parseMethodDescriptor yX9_bestMove.desc).map (fun d => d.parameters.length + 1) = some 3 := by decide +kernel
theorem cdD_couldLabel : Cond.code yX8_couldLabel cX8_couldLabel 2 (some .int) ∈ xw := xw_t4 189 rfl rfl
theorem inD_couldLabel : Cond.initialized yX8_couldLabel.cls ∈ xw := xw_t1 1 rfl rfl
theorem imD_couldLabel : Cond.instanceMethod yX8_couldLabel ∈ xw := xw_t4 187 rfl rfl
theorem slD_couldLabel : Cond.selects RX8 yX8_couldLabel yX8_couldLabel ∈ xw := xw_t4 188 rfl rfl
theorem pmD_couldLabel : yX8_couldLabel.cls ≠ "java/lang/invoke/MethodHandle" ∧ yX8_couldLabel.cls ≠ "java/lang/invoke/VarHandle" ∧ (parseMethodDescriptor yX8_couldLabel.desc).map (fun d => d.parameters.length + 1) = some 1 := by decide +kernel
theorem cdM_couldLabel : Cond.code yX9_couldLabel cX9_couldLabel 2 (some .int) ∈ xw := xw_t8 30 rfl rfl
theorem inM_couldLabel : Cond.initialized yX9_couldLabel.cls ∈ xw := xw_t1 11 rfl rfl
theorem imM_couldLabel : Cond.instanceMethod yX9_couldLabel ∈ xw := xw_t8 28 rfl rfl
theorem slM_couldLabel : Cond.selects RX9 yX9_couldLabel yX9_couldLabel ∈ xw := xw_t8 29 rfl rfl
theorem pmM_couldLabel : yX9_couldLabel.cls ≠ "java/lang/invoke/MethodHandle" ∧ yX9_couldLabel.cls ≠ "java/lang/invoke/VarHandle" ∧ (parseMethodDescriptor yX9_couldLabel.desc).map (fun d => d.parameters.length + 1) = some 1 := by decide +kernel
theorem cdD_meanGap : Cond.code yX8_meanGap cX8_meanGap 3 (some .float) ∈ xw := xw_t4 193 rfl rfl
theorem inD_meanGap : Cond.initialized yX8_meanGap.cls ∈ xw := xw_t1 1 rfl rfl
theorem imD_meanGap : Cond.instanceMethod yX8_meanGap ∈ xw := xw_t4 191 rfl rfl
theorem slD_meanGap : Cond.selects RX8 yX8_meanGap yX8_meanGap ∈ xw := xw_t4 192 rfl rfl
theorem pmD_meanGap : yX8_meanGap.cls ≠ "java/lang/invoke/MethodHandle" ∧ yX8_meanGap.cls ≠ "java/lang/invoke/VarHandle" ∧ (parseMethodDescriptor yX8_meanGap.desc).map (fun d => d.parameters.length + 1) = some 2 := by decide +kernel
theorem cdM_meanGap : Cond.code yX9_meanGap cX9_meanGap 2 (some .float) ∈ xw := xw_t8 34 rfl rfl
theorem inM_meanGap : Cond.initialized yX9_meanGap.cls ∈ xw := xw_t1 11 rfl rfl
theorem imM_meanGap : Cond.instanceMethod yX9_meanGap ∈ xw := xw_t8 32 rfl rfl
theorem slM_meanGap : Cond.selects RX9 yX9_meanGap yX9_meanGap ∈ xw := xw_t8 33 rfl rfl
theorem pmM_meanGap : yX9_meanGap.cls ≠ "java/lang/invoke/MethodHandle" ∧ yX9_meanGap.cls ≠ "java/lang/invoke/VarHandle" ∧ (parseMethodDescriptor yX9_meanGap.desc).map (fun d => d.parameters.length + 1) = some 2 := by decide +kernel
theorem cdD_labelled : Cond.code yX8_labelled cX8_labelled 2 (some .double) ∈ xw := xw_t4 198 rfl rfl
theorem inD_labelled : Cond.initialized yX8_labelled.cls ∈ xw := xw_t1 1 rfl rfl
theorem imD_labelled : Cond.instanceMethod yX8_labelled ∈ xw := xw_t4 196 rfl rfl
theorem slD_labelled : Cond.selects RX8 yX8_labelled yX8_labelled ∈ xw := xw_t4 197 rfl rfl
theorem pmD_labelled : yX8_labelled.cls ≠ "java/lang/invoke/MethodHandle" ∧ yX8_labelled.cls ≠ "java/lang/invoke/VarHandle" ∧ (parseMethodDescriptor yX8_labelled.desc).map (fun d => d.parameters.length + 1) = some 1 := by decide +kernel
theorem cdM_labelled : Cond.code yX9_labelled cX9_labelled 2 (some .double) ∈ xw := xw_t8 39 rfl rfl
theorem inM_labelled : Cond.initialized yX9_labelled.cls ∈ xw := xw_t1 11 rfl rfl
theorem imM_labelled : Cond.instanceMethod yX9_labelled ∈ xw := xw_t8 37 rfl rfl
theorem slM_labelled : Cond.selects RX9 yX9_labelled yX9_labelled ∈ xw := xw_t8 38 rfl rfl
theorem pmM_labelled : yX9_labelled.cls ≠ "java/lang/invoke/MethodHandle" ∧ yX9_labelled.cls ≠ "java/lang/invoke/VarHandle" ∧ (parseMethodDescriptor yX9_labelled.desc).map (fun d => d.parameters.length + 1) = some 1 := by decide +kernel
theorem cdD_letterOf : Cond.code yX8_letterOf cX8_letterOf 2 (some .int) ∈ xw := xw_t4 208 rfl rfl
theorem inD_letterOf : Cond.initialized yX8_letterOf.cls ∈ xw := xw_t1 1 rfl rfl
theorem imD_letterOf : Cond.static yX8_letterOf ∈ xw := xw_t4 207 rfl rfl
theorem pmD_letterOf : yX8_letterOf.cls ≠ "java/lang/invoke/MethodHandle" ∧ yX8_letterOf.cls ≠ "java/lang/invoke/VarHandle" ∧ (parseMethodDescriptor yX8_letterOf.desc).map (fun d => d.parameters.length) = some 2 := by decide +kernel
theorem lkD_349 : Cond.methodLink RX8 349 yX8_shiftOf ∈ xw ∨ ∃ host, Cond.methodLinkNest RX8 349 yX8_shiftOf host ∈ xnw := Or.inl (xw_t4 209 rfl rfl)
theorem cdD_isName : Cond.code yX8_isName cX8_isName 4 (some .boolean) ∈ xw := xw_t4 205 rfl rfl
theorem inD_isName : Cond.initialized yX8_isName.cls ∈ xw := xw_t1 1 rfl rfl
theorem imD_isName : Cond.static yX8_isName ∈ xw := xw_t4 204 rfl rfl
theorem pmD_isName : yX8_isName.cls ≠ "java/lang/invoke/MethodHandle" ∧ yX8_isName.cls ≠ "java/lang/invoke/VarHandle" ∧ (parseMethodDescriptor yX8_isName.desc).map (fun d => d.parameters.length) = some 1 := by decide +kernel
theorem lkD_346 : Cond.methodLink RX8 346 yX8_letterOf ∈ xw ∨ ∃ host, Cond.methodLinkNest RX8 346 yX8_letterOf host ∈ xnw := Or.inl (xw_t4 206 rfl rfl)
theorem cdD_named : Cond.code yX8_named cX8_named 3 (some .int) ∈ xw := xw_t4 202 rfl rfl
theorem inD_named : Cond.initialized yX8_named.cls ∈ xw := xw_t1 1 rfl rfl
theorem imD_named : Cond.instanceMethod yX8_named ∈ xw := xw_t4 200 rfl rfl
theorem slD_named : Cond.selects RX8 yX8_named yX8_named ∈ xw := xw_t4 201 rfl rfl
theorem pmD_named : yX8_named.cls ≠ "java/lang/invoke/MethodHandle" ∧ yX8_named.cls ≠ "java/lang/invoke/VarHandle" ∧ (parseMethodDescriptor yX8_named.desc).map (fun d => d.parameters.length + 1) = some 2 := by decide +kernel
theorem lkD_330 : Cond.methodLink RX8 330 yX8_isName ∈ xw ∨ ∃ host, Cond.methodLinkNest RX8 330 yX8_isName host ∈ xnw := Or.inl (xw_t4 203 rfl rfl)
theorem lkD_333 : Cond.methodLink RX8 333 yX5_lineNamed ∈ xw := xw_t4 210 rfl rfl
theorem cdM_isName : Cond.code yX9_isName cX9_isName 5 (some .boolean) ∈ xw := xw_t8 46 rfl rfl
theorem inM_isName : Cond.initialized yX9_isName.cls ∈ xw := xw_t1 11 rfl rfl
theorem imM_isName : Cond.static yX9_isName ∈ xw := xw_t8 45 rfl rfl
theorem pmM_isName : yX9_isName.cls ≠ "java/lang/invoke/MethodHandle" ∧ yX9_isName.cls ≠ "java/lang/invoke/VarHandle" ∧ (parseMethodDescriptor yX9_isName.desc).map (fun d => d.parameters.length) = some 1 := by decide +kernel
theorem cdM_named : Cond.code yX9_named cX9_named 3 (some .int) ∈ xw := xw_t8 43 rfl rfl
theorem inM_named : Cond.initialized yX9_named.cls ∈ xw := xw_t1 11 rfl rfl
theorem imM_named : Cond.instanceMethod yX9_named ∈ xw := xw_t8 41 rfl rfl
theorem slM_named : Cond.selects RX9 yX9_named yX9_named ∈ xw := xw_t8 42 rfl rfl
theorem pmM_named : yX9_named.cls ≠ "java/lang/invoke/MethodHandle" ∧ yX9_named.cls ≠ "java/lang/invoke/VarHandle" ∧ (parseMethodDescriptor yX9_named.desc).map (fun d => d.parameters.length + 1) = some 2 := by decide +kernel
theorem lkM_470 : Cond.methodLink RX9 470 yX9_isName ∈ xw ∨ ∃ host, Cond.methodLinkNest RX9 470 yX9_isName host ∈ xnw := Or.inl (xw_t8 44 rfl rfl)
theorem cdD_pictureLength : Cond.code yX8_pictureLength cX8_pictureLength 1 (some .int) ∈ xw := xw_t4 214 rfl rfl
theorem inD_pictureLength : Cond.initialized yX8_pictureLength.cls ∈ xw := xw_t1 1 rfl rfl
theorem imD_pictureLength : Cond.instanceMethod yX8_pictureLength ∈ xw := xw_t4 212 rfl rfl
theorem slD_pictureLength : Cond.selects RX8 yX8_pictureLength yX8_pictureLength ∈ xw := xw_t4 213 rfl rfl
theorem pmD_pictureLength : yX8_pictureLength.cls ≠ "java/lang/invoke/MethodHandle" ∧ yX8_pictureLength.cls ≠ "java/lang/invoke/VarHandle" ∧ (parseMethodDescriptor yX8_pictureLength.desc).map (fun d => d.parameters.length + 1) = some 1 := by decide +kernel
theorem cdM_says : Cond.code yX9_says cX9_says 2 none ∈ xw := xw_t8 70 rfl rfl
theorem inM_says : Cond.initialized yX9_says.cls ∈ xw := xw_t1 11 rfl rfl
theorem imM_says : Cond.instanceMethod yX9_says ∈ xw := xw_t8 69 rfl rfl
theorem slM_says : Cond.selects RX9 yX9_says yX9_says ∈ xw := xw_p8 8 44 rfl rfl
theorem pmM_says : yX9_says.cls ≠ "java/lang/invoke/MethodHandle" ∧ yX9_says.cls ≠ "java/lang/invoke/VarHandle" ∧ (parseMethodDescriptor yX9_says.desc).map (fun d => d.parameters.length + 1) = some 2 := by decide +kernel
theorem cdM_startsText : Cond.code yX9_startsText cX9_startsText 2 none ∈ xw := xw_t8 58 rfl rfl
theorem inM_startsText : Cond.initialized yX9_startsText.cls ∈ xw := xw_t1 11 rfl rfl
theorem imM_startsText : Cond.instanceMethod yX9_startsText ∈ xw := xw_t8 57 rfl rfl
theorem slM_startsText : Cond.selects RX9 yX9_startsText yX9_startsText ∈ xw := xw_p8 5 44 rfl rfl
theorem pmM_startsText : yX9_startsText.cls ≠ "java/lang/invoke/MethodHandle" ∧ yX9_startsText.cls ≠ "java/lang/invoke/VarHandle" ∧ (parseMethodDescriptor yX9_startsText.desc).map (fun d => d.parameters.length + 1) = some 2 := by decide +kernel
theorem cdM_firstLineOn : Cond.code yX9_firstLineOn cX9_firstLineOn 3 (some .int) ∈ xw := xw_t8 66 rfl rfl
theorem inM_firstLineOn : Cond.initialized yX9_firstLineOn.cls ∈ xw := xw_t1 11 rfl rfl
theorem imM_firstLineOn : Cond.instanceMethod yX9_firstLineOn ∈ xw := xw_t8 65 rfl rfl
theorem slM_firstLineOn : Cond.selects RX9 yX9_firstLineOn yX9_firstLineOn ∈ xw := xw_p8 7 44 rfl rfl
theorem pmM_firstLineOn : yX9_firstLineOn.cls ≠ "java/lang/invoke/MethodHandle" ∧ yX9_firstLineOn.cls ≠ "java/lang/invoke/VarHandle" ∧ (parseMethodDescriptor yX9_firstLineOn.desc).map (fun d => d.parameters.length + 1) = some 2 := by decide +kernel
theorem cdM_signOf : Cond.code yX9_signOf cX9_signOf 3 (some .int) ∈ xw := xw_t8 62 rfl rfl
theorem inM_signOf : Cond.initialized yX9_signOf.cls ∈ xw := xw_t1 11 rfl rfl
theorem imM_signOf : Cond.instanceMethod yX9_signOf ∈ xw := xw_t8 61 rfl rfl
theorem slM_signOf : Cond.selects RX9 yX9_signOf yX9_signOf ∈ xw := xw_p8 6 44 rfl rfl
theorem pmM_signOf : yX9_signOf.cls ≠ "java/lang/invoke/MethodHandle" ∧ yX9_signOf.cls ≠ "java/lang/invoke/VarHandle" ∧ (parseMethodDescriptor yX9_signOf.desc).map (fun d => d.parameters.length + 1) = some 2 := by decide +kernel
theorem lkM_487 : Cond.methodLink RX9 487 yX9_firstLineOn ∈ xw := xw_t8 63 rfl rfl
theorem cdM_saysPicture : Cond.code yX9_saysPicture cX9_saysPicture 4 none ∈ xw := xw_t8 54 rfl rfl
theorem inM_saysPicture : Cond.initialized yX9_saysPicture.cls ∈ xw := xw_t1 11 rfl rfl
theorem imM_saysPicture : Cond.instanceMethod yX9_saysPicture ∈ xw := xw_t8 53 rfl rfl
theorem slM_saysPicture : Cond.selects RX9 yX9_saysPicture yX9_saysPicture ∈ xw := xw_p8 4 44 rfl rfl
theorem pmM_saysPicture : yX9_saysPicture.cls ≠ "java/lang/invoke/MethodHandle" ∧ yX9_saysPicture.cls ≠ "java/lang/invoke/VarHandle" ∧ (parseMethodDescriptor yX9_saysPicture.desc).map (fun d => d.parameters.length + 1) = some 2 := by decide +kernel
theorem lkM_484 : Cond.methodLink RX9 484 yX9_says ∈ xw := xw_t8 67 rfl rfl
theorem lkM_490 : Cond.methodLink RX9 490 yX9_startsText ∈ xw := xw_t8 55 rfl rfl
theorem lkM_493 : Cond.methodLink RX9 493 yX9_signOf ∈ xw := xw_t8 59 rfl rfl
theorem cdM_pictureLength : Cond.code yX9_pictureLength cX9_pictureLength 1 (some .int) ∈ xw := xw_t8 50 rfl rfl
theorem inM_pictureLength : Cond.initialized yX9_pictureLength.cls ∈ xw := xw_t1 11 rfl rfl
theorem imM_pictureLength : Cond.instanceMethod yX9_pictureLength ∈ xw := xw_t8 48 rfl rfl
theorem slM_pictureLength : Cond.selects RX9 yX9_pictureLength yX9_pictureLength ∈ xw := xw_t8 49 rfl rfl
theorem pmM_pictureLength : yX9_pictureLength.cls ≠ "java/lang/invoke/MethodHandle" ∧ yX9_pictureLength.cls ≠ "java/lang/invoke/VarHandle" ∧ (parseMethodDescriptor yX9_pictureLength.desc).map (fun d => d.parameters.length + 1) = some 1 := by decide +kernel
theorem lkM_496 : Cond.methodLink RX9 496 yX9_saysPicture ∈ xw := xw_t8 51 rfl rfl
theorem cdB_firstLineOn : Cond.code yX0_firstLineOn cX0_firstLineOn 3 (some .int) ∈ xw := xw_t4 226 rfl rfl
theorem inB_firstLineOn : Cond.initialized yX0_firstLineOn.cls ∈ xw := xw_t1 8 rfl rfl
theorem imB_firstLineOn : Cond.instanceMethod yX0_firstLineOn ∈ xw := xw_t4 225 rfl rfl
theorem slB_firstLineOn : Cond.selects RX0 yX0_firstLineOn yX0_firstLineOn ∈ xw := xw_p3 2 9 rfl rfl
theorem pmB_firstLineOn : yX0_firstLineOn.cls ≠ "java/lang/invoke/MethodHandle" ∧ yX0_firstLineOn.cls ≠ "java/lang/invoke/VarHandle" ∧ (parseMethodDescriptor yX0_firstLineOn.desc).map (fun d => d.parameters.length + 1) = some 2 := by decide +kernel
theorem cdB_byteOf : Cond.code yX0_byteOf cX0_byteOf 2 (some .int) ∈ xw := xw_t4 222 rfl rfl
theorem inB_byteOf : Cond.initialized yX0_byteOf.cls ∈ xw := xw_t1 8 rfl rfl
theorem imB_byteOf : Cond.instanceMethod yX0_byteOf ∈ xw := xw_t4 220 rfl rfl
theorem slB_byteOf : Cond.selects RX0 yX0_byteOf yX0_byteOf ∈ xw := xw_t4 221 rfl rfl
theorem pmB_byteOf : yX0_byteOf.cls ≠ "java/lang/invoke/MethodHandle" ∧ yX0_byteOf.cls ≠ "java/lang/invoke/VarHandle" ∧ (parseMethodDescriptor yX0_byteOf.desc).map (fun d => d.parameters.length + 1) = some 2 := by decide +kernel
theorem lkB_171 : Cond.methodLink RX0 171 yX0_firstLineOn ∈ xw := xw_t4 223 rfl rfl
theorem cdD_pictureByte : Cond.code yX8_pictureByte cX8_pictureByte 4 (some .int) ∈ xw := xw_t4 218 rfl rfl
theorem inD_pictureByte : Cond.initialized yX8_pictureByte.cls ∈ xw := xw_t1 1 rfl rfl
theorem imD_pictureByte : Cond.instanceMethod yX8_pictureByte ∈ xw := xw_t4 216 rfl rfl
theorem slD_pictureByte : Cond.selects RX8 yX8_pictureByte yX8_pictureByte ∈ xw := xw_t4 217 rfl rfl
theorem pmD_pictureByte : yX8_pictureByte.cls ≠ "java/lang/invoke/MethodHandle" ∧ yX8_pictureByte.cls ≠ "java/lang/invoke/VarHandle" ∧ (parseMethodDescriptor yX8_pictureByte.desc).map (fun d => d.parameters.length + 1) = some 2 := by decide +kernel
theorem lkD_336 : Cond.methodLink RX8 336 yX0_byteOf ∈ xw := xw_t4 219 rfl rfl
theorem cdM_pictureByte : Cond.code yX9_pictureByte cX9_pictureByte 2 (some .int) ∈ xw := xw_t8 74 rfl rfl
theorem inM_pictureByte : Cond.initialized yX9_pictureByte.cls ∈ xw := xw_t1 11 rfl rfl
theorem imM_pictureByte : Cond.instanceMethod yX9_pictureByte ∈ xw := xw_t8 72 rfl rfl
theorem slM_pictureByte : Cond.selects RX9 yX9_pictureByte yX9_pictureByte ∈ xw := xw_t8 73 rfl rfl
theorem pmM_pictureByte : yX9_pictureByte.cls ≠ "java/lang/invoke/MethodHandle" ∧ yX9_pictureByte.cls ≠ "java/lang/invoke/VarHandle" ∧ (parseMethodDescriptor yX9_pictureByte.desc).map (fun d => d.parameters.length + 1) = some 2 := by decide +kernel
theorem cdJS_coder : Cond.code yJ0_coder_7d493 cJ0_coder_7d493 1 (some .byte) ∈ xw := xw_t5 7 rfl rfl
theorem inJS_coder : Cond.initialized yJ0_coder_7d493.cls ∈ xw := xw_t1 15 rfl rfl
theorem imJS_coder : Cond.instanceMethod yJ0_coder_7d493 ∈ xw := xw_t5 5 rfl rfl
theorem slJS_coder : Cond.selects RJ0 yJ0_coder_7d493 yJ0_coder_7d493 ∈ xw := xw_t5 6 rfl rfl
theorem pmJS_coder : yJ0_coder_7d493.cls ≠ "java/lang/invoke/MethodHandle" ∧ yJ0_coder_7d493.cls ≠ "java/lang/invoke/VarHandle" ∧ (parseMethodDescriptor yJ0_coder_7d493.desc).map (fun d => d.parameters.length + 1) = some 1 := by decide +kernel
theorem cdJS_length : Cond.code yJ0_length_8abf5 cJ0_length_8abf5 1 (some .int) ∈ xw := xw_t5 3 rfl rfl
theorem inJS_length : Cond.initialized yJ0_length_8abf5.cls ∈ xw := xw_t1 15 rfl rfl
theorem imJS_length : Cond.instanceMethod yJ0_length_8abf5 ∈ xw := xw_t5 1 rfl rfl
theorem slJS_length : Cond.selects RJ0 yJ0_length_8abf5 yJ0_length_8abf5 ∈ xw := xw_t5 2 rfl rfl
theorem pmJS_length : yJ0_length_8abf5.cls ≠ "java/lang/invoke/MethodHandle" ∧ yJ0_length_8abf5.cls ≠ "java/lang/invoke/VarHandle" ∧ (parseMethodDescriptor yJ0_length_8abf5.desc).map (fun d => d.parameters.length + 1) = some 1 := by decide +kernel
theorem lkJS_335 : Cond.methodLink RJ0 335 yJ0_coder_7d493 ∈ xw := xw_t5 4 rfl rfl
theorem cdJS_isLatin1 : Cond.code yJ0_isLatin1_aae02 cJ0_isLatin1_aae02 1 (some .boolean) ∈ xw := xw_t5 17 rfl rfl
theorem inJS_isLatin1 : Cond.initialized yJ0_isLatin1_aae02.cls ∈ xw := xw_t1 15 rfl rfl
theorem imJS_isLatin1 : Cond.instanceMethod yJ0_isLatin1_aae02 ∈ xw := xw_t5 15 rfl rfl
theorem slJS_isLatin1 : Cond.selects RJ0 yJ0_isLatin1_aae02 yJ0_isLatin1_aae02 ∈ xw := xw_t5 16 rfl rfl
theorem pmJS_isLatin1 : yJ0_isLatin1_aae02.cls ≠ "java/lang/invoke/MethodHandle" ∧ yJ0_isLatin1_aae02.cls ≠ "java/lang/invoke/VarHandle" ∧ (parseMethodDescriptor yJ0_isLatin1_aae02.desc).map (fun d => d.parameters.length + 1) = some 1 := by decide +kernel
theorem cdJS_checkIndex : Cond.code yJ0_checkIndex_df160 cJ0_checkIndex_df160 2 none ∈ xw := xw_t5 23 rfl rfl
theorem inJS_checkIndex : Cond.initialized yJ0_checkIndex_df160.cls ∈ xw := xw_t1 15 rfl rfl
theorem imJS_checkIndex : Cond.static yJ0_checkIndex_df160 ∈ xw := xw_t5 22 rfl rfl
theorem pmJS_checkIndex : yJ0_checkIndex_df160.cls ≠ "java/lang/invoke/MethodHandle" ∧ yJ0_checkIndex_df160.cls ≠ "java/lang/invoke/VarHandle" ∧ (parseMethodDescriptor yJ0_checkIndex_df160.desc).map (fun d => d.parameters.length) = some 2 := by decide +kernel
theorem lkJS_1059 : Cond.methodLink RJ0 1059 yJ3_checkIndex_8e157 ∈ xw ∨ ∃ host, Cond.methodLinkNest RJ0 1059 yJ3_checkIndex_8e157 host ∈ xnw := Or.inl (xw_t5 26 rfl rfl)
theorem cdJL_charAt : Cond.code yJ1_charAt_3b067 cJ1_charAt_3b067 2 (some .char) ∈ xw := xw_t5 20 rfl rfl
theorem inJL_charAt : Cond.initialized yJ1_charAt_3b067.cls ∈ xw := xw_t1 16 rfl rfl
theorem imJL_charAt : Cond.static yJ1_charAt_3b067 ∈ xw := xw_t5 19 rfl rfl
theorem pmJL_charAt : yJ1_charAt_3b067.cls ≠ "java/lang/invoke/MethodHandle" ∧ yJ1_charAt_3b067.cls ≠ "java/lang/invoke/VarHandle" ∧ (parseMethodDescriptor yJ1_charAt_3b067.desc).map (fun d => d.parameters.length) = some 2 := by decide +kernel
theorem lkJL_9 : Cond.methodLink RJ1 9 yJ0_checkIndex_df160 ∈ xw ∨ ∃ host, Cond.methodLinkNest RJ1 9 yJ0_checkIndex_df160 host ∈ xnw := Or.inl (xw_t5 21 rfl rfl)
theorem cdJS_charAt : Cond.code yJ0_charAt_5068e cJ0_charAt_5068e 2 (some .char) ∈ xw := xw_t5 13 rfl rfl
theorem inJS_charAt : Cond.initialized yJ0_charAt_5068e.cls ∈ xw := xw_t1 15 rfl rfl
theorem imJS_charAt : Cond.instanceMethod yJ0_charAt_5068e ∈ xw := xw_t5 11 rfl rfl
theorem slJS_charAt : Cond.selects RJ0 yJ0_charAt_5068e yJ0_charAt_5068e ∈ xw := xw_t5 12 rfl rfl
theorem pmJS_charAt : yJ0_charAt_5068e.cls ≠ "java/lang/invoke/MethodHandle" ∧ yJ0_charAt_5068e.cls ≠ "java/lang/invoke/VarHandle" ∧ (parseMethodDescriptor yJ0_charAt_5068e.desc).map (fun d => d.parameters.length + 1) = some 2 := by decide +kernel
theorem lkJS_492 : Cond.methodLink RJ0 492 yJ0_isLatin1_aae02 ∈ xw := xw_t5 14 rfl rfl
theorem lkJS_495 : Cond.methodLink RJ0 495 yJ1_charAt_3b067 ∈ xw ∨ ∃ host, Cond.methodLinkNest RJ0 495 yJ1_charAt_3b067 host ∈ xnw := Or.inl (xw_t5 18 rfl rfl)
theorem cdT_addWord : Cond.code yX6_addWord cX6_addWord 3 none ∈ xw := xw_t4 239 rfl rfl
theorem inT_addWord : Cond.initialized yX6_addWord.cls ∈ xw := xw_t1 2 rfl rfl
theorem imT_addWord : Cond.instanceMethod yX6_addWord ∈ xw := xw_t4 237 rfl rfl
theorem slT_addWord : Cond.selects RX6 yX6_addWord yX6_addWord ∈ xw := xw_t4 238 rfl rfl
theorem pmT_addWord : yX6_addWord.cls ≠ "java/lang/invoke/MethodHandle" ∧ yX6_addWord.cls ≠ "java/lang/invoke/VarHandle" ∧ (parseMethodDescriptor yX6_addWord.desc).map (fun d => d.parameters.length + 1) = some 2 := by decide +kernel
theorem lkT_23 : Cond.methodLink RX6 23 yJ0_length_8abf5 ∈ xw := xw_t5 0 rfl rfl
theorem lkT_28 : Cond.methodLink RX6 28 yJ0_charAt_5068e ∈ xw := xw_t5 10 rfl rfl
theorem cdT_addNumber : Cond.code yX6_addNumber cX6_addNumber 2 none ∈ xw := xw_t5 51 rfl rfl
theorem inT_addNumber : Cond.initialized yX6_addNumber.cls ∈ xw := xw_t1 2 rfl rfl
theorem imT_addNumber : Cond.instanceMethod yX6_addNumber ∈ xw := xw_t5 49 rfl rfl
theorem slT_addNumber : Cond.selects RX6 yX6_addNumber yX6_addNumber ∈ xw := xw_t5 50 rfl rfl
theorem pmT_addNumber : yX6_addNumber.cls ≠ "java/lang/invoke/MethodHandle" ∧ yX6_addNumber.cls ≠ "java/lang/invoke/VarHandle" ∧ (parseMethodDescriptor yX6_addNumber.desc).map (fun d => d.parameters.length + 1) = some 2 := by decide +kernel
theorem cdT_addName : Cond.code yX6_addName cX6_addName 4 none ∈ xw := xw_t5 61 rfl rfl
theorem inT_addName : Cond.initialized yX6_addName.cls ∈ xw := xw_t1 2 rfl rfl
theorem imT_addName : Cond.instanceMethod yX6_addName ∈ xw := xw_t5 59 rfl rfl
theorem slT_addName : Cond.selects RX6 yX6_addName yX6_addName ∈ xw := xw_t5 60 rfl rfl
theorem pmT_addName : yX6_addName.cls ≠ "java/lang/invoke/MethodHandle" ∧ yX6_addName.cls ≠ "java/lang/invoke/VarHandle" ∧ (parseMethodDescriptor yX6_addName.desc).map (fun d => d.parameters.length + 1) = some 2 := by decide +kernel
theorem lkT_32 : Cond.methodLink RX6 32 yX8_letterOf ∈ xw ∨ ∃ host, Cond.methodLinkNest RX6 32 yX8_letterOf host ∈ xnw := Or.inr ⟨"LineDiagram", List.mem_of_getElem? (i := 15) rfl⟩
theorem cdP_describeLine : Cond.code yX5_describeLine cX5_describeLine 3 none ∈ xw := xw_t5 56 rfl rfl
theorem inP_describeLine : Cond.initialized yX5_describeLine.cls ∈ xw := xw_t1 4 rfl rfl
theorem imP_describeLine : Cond.static yX5_describeLine ∈ xw := xw_t5 55 rfl rfl
theorem pmP_describeLine : yX5_describeLine.cls ≠ "java/lang/invoke/MethodHandle" ∧ yX5_describeLine.cls ≠ "java/lang/invoke/VarHandle" ∧ (parseMethodDescriptor yX5_describeLine.desc).map (fun d => d.parameters.length) = some 2 := by decide +kernel
theorem lkP_61 : Cond.methodLink RX5 61 yX6_addWord ∈ xw := xw_t4 236 rfl rfl
theorem lkP_65 : Cond.methodLink RX5 65 yX6_addNumber ∈ xw := xw_t5 48 rfl rfl
theorem lkP_71 : Cond.methodLink RX5 71 yX6_addByte ∈ xw := xw_t5 53 rfl rfl
theorem lkP_80 : Cond.methodLink RX5 80 yX6_addName ∈ xw := xw_t5 58 rfl rfl
theorem cdP_describe : Cond.code yX5_describe cX5_describe 3 none ∈ xw := xw_t4 234 rfl rfl
theorem inP_describe : Cond.initialized yX5_describe.cls ∈ xw := xw_t1 4 rfl rfl
theorem imP_describe : Cond.instanceMethod yX5_describe ∈ xw := xw_t4 232 rfl rfl
theorem slP_describe : Cond.selects RX5 yX5_describe yX5_describe ∈ xw := xw_t4 233 rfl rfl
theorem pmP_describe : yX5_describe.cls ≠ "java/lang/invoke/MethodHandle" ∧ yX5_describe.cls ≠ "java/lang/invoke/VarHandle" ∧ (parseMethodDescriptor yX5_describe.desc).map (fun d => d.parameters.length + 1) = some 2 := by decide +kernel
theorem lkP_74 : Cond.methodLink RX5 74 yX5_describeLine ∈ xw ∨ ∃ host, Cond.methodLinkNest RX5 74 yX5_describeLine host ∈ xnw := Or.inl (xw_t5 54 rfl rfl)
theorem cdD_setupLength : Cond.code yX8_setupLength cX8_setupLength 1 (some .int) ∈ xw := xw_t4 230 rfl rfl
theorem inD_setupLength : Cond.initialized yX8_setupLength.cls ∈ xw := xw_t1 1 rfl rfl
theorem imD_setupLength : Cond.instanceMethod yX8_setupLength ∈ xw := xw_t4 228 rfl rfl
theorem slD_setupLength : Cond.selects RX8 yX8_setupLength yX8_setupLength ∈ xw := xw_t4 229 rfl rfl
theorem pmD_setupLength : yX8_setupLength.cls ≠ "java/lang/invoke/MethodHandle" ∧ yX8_setupLength.cls ≠ "java/lang/invoke/VarHandle" ∧ (parseMethodDescriptor yX8_setupLength.desc).map (fun d => d.parameters.length + 1) = some 1 := by decide +kernel
theorem lkD_339 : Cond.methodLink RX8 339 yX5_describe ∈ xw := xw_t4 231 rfl rfl
theorem cdM_saysNumber : Cond.code yX9_saysNumber cX9_saysNumber 3 none ∈ xw := xw_t8 95 rfl rfl
theorem inM_saysNumber : Cond.initialized yX9_saysNumber.cls ∈ xw := xw_t1 11 rfl rfl
theorem imM_saysNumber : Cond.instanceMethod yX9_saysNumber ∈ xw := xw_t8 94 rfl rfl
theorem slM_saysNumber : Cond.selects RX9 yX9_saysNumber yX9_saysNumber ∈ xw := xw_p8 12 44 rfl rfl
theorem pmM_saysNumber : yX9_saysNumber.cls ≠ "java/lang/invoke/MethodHandle" ∧ yX9_saysNumber.cls ≠ "java/lang/invoke/VarHandle" ∧ (parseMethodDescriptor yX9_saysNumber.desc).map (fun d => d.parameters.length + 1) = some 2 := by decide +kernel
theorem cdM_saysWord : Cond.code yX9_saysWord cX9_saysWord 5 none ∈ xw := xw_t8 90 rfl rfl
theorem inM_saysWord : Cond.initialized yX9_saysWord.cls ∈ xw := xw_t1 11 rfl rfl
theorem imM_saysWord : Cond.instanceMethod yX9_saysWord ∈ xw := xw_t8 89 rfl rfl
theorem slM_saysWord : Cond.selects RX9 yX9_saysWord yX9_saysWord ∈ xw := xw_p8 11 44 rfl rfl
theorem pmM_saysWord : yX9_saysWord.cls ≠ "java/lang/invoke/MethodHandle" ∧ yX9_saysWord.cls ≠ "java/lang/invoke/VarHandle" ∧ (parseMethodDescriptor yX9_saysWord.desc).map (fun d => d.parameters.length + 1) = some 2 := by decide +kernel
theorem cdM_saysPair : Cond.code yX9_saysPair cX9_saysPair 4 none ∈ xw := xw_t8 86 rfl rfl
theorem inM_saysPair : Cond.initialized yX9_saysPair.cls ∈ xw := xw_t1 11 rfl rfl
theorem imM_saysPair : Cond.instanceMethod yX9_saysPair ∈ xw := xw_t8 85 rfl rfl
theorem slM_saysPair : Cond.selects RX9 yX9_saysPair yX9_saysPair ∈ xw := xw_p8 10 44 rfl rfl
theorem pmM_saysPair : yX9_saysPair.cls ≠ "java/lang/invoke/MethodHandle" ∧ yX9_saysPair.cls ≠ "java/lang/invoke/VarHandle" ∧ (parseMethodDescriptor yX9_saysPair.desc).map (fun d => d.parameters.length + 1) = some 3 := by decide +kernel
theorem lkM_499 : Cond.methodLink RX9 499 yX9_saysWord ∈ xw := xw_t8 87 rfl rfl
theorem lkM_503 : Cond.methodLink RX9 503 yX9_saysNumber ∈ xw := xw_t8 92 rfl rfl
theorem cdM_saysLine : Cond.code yX9_saysLine cX9_saysLine 3 none ∈ xw := xw_t8 99 rfl rfl
theorem inM_saysLine : Cond.initialized yX9_saysLine.cls ∈ xw := xw_t1 11 rfl rfl
theorem imM_saysLine : Cond.instanceMethod yX9_saysLine ∈ xw := xw_t8 98 rfl rfl
theorem slM_saysLine : Cond.selects RX9 yX9_saysLine yX9_saysLine ∈ xw := xw_p8 13 44 rfl rfl
theorem pmM_saysLine : yX9_saysLine.cls ≠ "java/lang/invoke/MethodHandle" ∧ yX9_saysLine.cls ≠ "java/lang/invoke/VarHandle" ∧ (parseMethodDescriptor yX9_saysLine.desc).map (fun d => d.parameters.length + 1) = some 2 := by decide +kernel
theorem lkM_506 : Cond.methodLink RX9 506 yX9_saysPair ∈ xw := xw_t8 83 rfl rfl
theorem cdM_saysSetup : Cond.code yX9_saysSetup cX9_saysSetup 3 none ∈ xw := xw_t8 82 rfl rfl
theorem inM_saysSetup : Cond.initialized yX9_saysSetup.cls ∈ xw := xw_t1 11 rfl rfl
theorem imM_saysSetup : Cond.instanceMethod yX9_saysSetup ∈ xw := xw_t8 81 rfl rfl
theorem slM_saysSetup : Cond.selects RX9 yX9_saysSetup yX9_saysSetup ∈ xw := xw_p8 9 44 rfl rfl
theorem pmM_saysSetup : yX9_saysSetup.cls ≠ "java/lang/invoke/MethodHandle" ∧ yX9_saysSetup.cls ≠ "java/lang/invoke/VarHandle" ∧ (parseMethodDescriptor yX9_saysSetup.desc).map (fun d => d.parameters.length + 1) = some 2 := by decide +kernel
theorem lkM_510 : Cond.methodLink RX9 510 yX9_saysLine ∈ xw := xw_t8 96 rfl rfl
theorem cdM_setupLength : Cond.code yX9_setupLength cX9_setupLength 1 (some .int) ∈ xw := xw_t8 78 rfl rfl
theorem inM_setupLength : Cond.initialized yX9_setupLength.cls ∈ xw := xw_t1 11 rfl rfl
theorem imM_setupLength : Cond.instanceMethod yX9_setupLength ∈ xw := xw_t8 76 rfl rfl
theorem slM_setupLength : Cond.selects RX9 yX9_setupLength yX9_setupLength ∈ xw := xw_t8 77 rfl rfl
theorem pmM_setupLength : yX9_setupLength.cls ≠ "java/lang/invoke/MethodHandle" ∧ yX9_setupLength.cls ≠ "java/lang/invoke/VarHandle" ∧ (parseMethodDescriptor yX9_setupLength.desc).map (fun d => d.parameters.length + 1) = some 1 := by decide +kernel
theorem lkM_513 : Cond.methodLink RX9 513 yX9_saysSetup ∈ xw := xw_t8 79 rfl rfl
theorem cdD_setupByte : Cond.code yX8_setupByte cX8_setupByte 2 (some .int) ∈ xw := xw_t5 69 rfl rfl
theorem inD_setupByte : Cond.initialized yX8_setupByte.cls ∈ xw := xw_t1 1 rfl rfl
theorem imD_setupByte : Cond.instanceMethod yX8_setupByte ∈ xw := xw_t5 67 rfl rfl
theorem slD_setupByte : Cond.selects RX8 yX8_setupByte yX8_setupByte ∈ xw := xw_t5 68 rfl rfl
theorem pmD_setupByte : yX8_setupByte.cls ≠ "java/lang/invoke/MethodHandle" ∧ yX8_setupByte.cls ≠ "java/lang/invoke/VarHandle" ∧ (parseMethodDescriptor yX8_setupByte.desc).map (fun d => d.parameters.length + 1) = some 2 := by decide +kernel
theorem lkD_343 : Cond.methodLink RX8 343 yX6_byteAt ∈ xw := xw_t5 70 rfl rfl
theorem cdM_setupByte : Cond.code yX9_setupByte cX9_setupByte 2 (some .int) ∈ xw := xw_t8 103 rfl rfl
theorem inM_setupByte : Cond.initialized yX9_setupByte.cls ∈ xw := xw_t1 11 rfl rfl
theorem imM_setupByte : Cond.instanceMethod yX9_setupByte ∈ xw := xw_t8 101 rfl rfl
theorem slM_setupByte : Cond.selects RX9 yX9_setupByte yX9_setupByte ∈ xw := xw_t8 102 rfl rfl
theorem pmM_setupByte : yX9_setupByte.cls ≠ "java/lang/invoke/MethodHandle" ∧ yX9_setupByte.cls ≠ "java/lang/invoke/VarHandle" ∧ (parseMethodDescriptor yX9_setupByte.desc).map (fun d => d.parameters.length + 1) = some 2 := by decide +kernel
theorem cdD_tapeLength : Cond.code yX8_tapeLength cX8_tapeLength 1 (some .int) ∈ xw := xw_t5 74 rfl rfl
theorem inD_tapeLength : Cond.initialized yX8_tapeLength.cls ∈ xw := xw_t1 1 rfl rfl
theorem imD_tapeLength : Cond.instanceMethod yX8_tapeLength ∈ xw := xw_t5 72 rfl rfl
theorem slD_tapeLength : Cond.selects RX8 yX8_tapeLength yX8_tapeLength ∈ xw := xw_t5 73 rfl rfl
theorem pmD_tapeLength : yX8_tapeLength.cls ≠ "java/lang/invoke/MethodHandle" ∧ yX8_tapeLength.cls ≠ "java/lang/invoke/VarHandle" ∧ (parseMethodDescriptor yX8_tapeLength.desc).map (fun d => d.parameters.length + 1) = some 1 := by decide +kernel
theorem cdM_tapeLength : Cond.code yX9_tapeLength cX9_tapeLength 1 (some .int) ∈ xw := xw_t8 107 rfl rfl
theorem inM_tapeLength : Cond.initialized yX9_tapeLength.cls ∈ xw := xw_t1 11 rfl rfl
theorem imM_tapeLength : Cond.instanceMethod yX9_tapeLength ∈ xw := xw_t8 105 rfl rfl
theorem slM_tapeLength : Cond.selects RX9 yX9_tapeLength yX9_tapeLength ∈ xw := xw_t8 106 rfl rfl
theorem pmM_tapeLength : yX9_tapeLength.cls ≠ "java/lang/invoke/MethodHandle" ∧ yX9_tapeLength.cls ≠ "java/lang/invoke/VarHandle" ∧ (parseMethodDescriptor yX9_tapeLength.desc).map (fun d => d.parameters.length + 1) = some 1 := by decide +kernel
theorem cpn1 : Cond.native arraycopyName ∈ xw := xw_t2 190 rfl rfl
theorem cpn2 : Cond.static arraycopyName ∈ xw := xw_t2 189 rfl rfl
theorem cpn3 : Cond.initialized "java/lang/System" ∈ xw := xw_t1 13 rfl rfl
theorem lkB_cp112 (fr lo : Nat) (h1 : 1 ≤ fr) (h2 : 21 ≤ lo) : XIn RX0 112 2 (xrm fr lo) := by
  unfold XIn
  rw [if_neg (by decide), if_neg (by decide), if_pos rfl]
  exact ⟨xw_t2 217 rfl rfl, xw_t2 178 rfl rfl, xw_t1 12 rfl rfl, xw_t2 179 rfl rfl, h1, h2⟩
theorem lkB_cp150 (fr lo : Nat) (h1 : 1 ≤ fr) (h2 : 21 ≤ lo) : XIn RX0 150 1 (xrm fr lo) := by
  unfold XIn
  rw [if_neg (by decide), if_pos rfl]
  exact ⟨xw_t4 94 rfl rfl, xw_t2 151 rfl rfl, xw_t1 12 rfl rfl, xw_t2 152 rfl rfl, h1, h2⟩
theorem lkH_cp29 (fr lo : Nat) (h1 : 1 ≤ fr) (h2 : 21 ≤ lo) : XIn RX1 29 3 (xrm fr lo) := by
  unfold XIn
  rw [if_neg (by decide), if_neg (by decide), if_neg (by decide), if_pos rfl]
  exact ⟨xw_t3 36 rfl rfl, xw_t2 163 rfl rfl, xw_t1 12 rfl rfl, xw_t2 164 rfl rfl, h1, h2⟩
theorem lkLb_cp22 (fr lo : Nat) (h1 : 1 ≤ fr) (h2 : 64 ≤ lo) : XIn RX2 22 9 (xrm fr lo) := ⟨xw_t2 195 rfl rfl, cpn1, cpn2, cpn3, h1, Nat.le_trans (Nat.le_of_ble_eq_true rfl) h2⟩
theorem lkLn_cp31 (fr lo : Nat) (h1 : 1 ≤ fr) (h2 : 64 ≤ lo) : XIn RX3 31 9 (xrm fr lo) := ⟨xw_t2 188 rfl rfl, cpn1, cpn2, cpn3, h1, Nat.le_trans (Nat.le_of_ble_eq_true rfl) h2⟩
theorem lkLn_cp37 (fr lo : Nat) (h1 : 1 ≤ fr) (h2 : 21 ≤ lo) : XIn RX3 37 1 (xrm fr lo) := by
  unfold XIn
  rw [if_neg (by decide), if_pos rfl]
  exact ⟨xw_t2 150 rfl rfl, xw_t2 151 rfl rfl, xw_t1 12 rfl rfl, xw_t2 152 rfl rfl, h1, h2⟩
theorem lkLn_cp49 (fr lo : Nat) (h1 : 1 ≤ fr) (h2 : 21 ≤ lo) : XIn RX3 49 2 (xrm fr lo) := by
  unfold XIn
  rw [if_neg (by decide), if_neg (by decide), if_pos rfl]
  exact ⟨xw_t2 177 rfl rfl, xw_t2 178 rfl rfl, xw_t1 12 rfl rfl, xw_t2 179 rfl rfl, h1, h2⟩
theorem lkLn_cp59 (fr lo : Nat) (h1 : 1 ≤ fr) (h2 : 21 ≤ lo) : XIn RX3 59 3 (xrm fr lo) := by
  unfold XIn
  rw [if_neg (by decide), if_neg (by decide), if_neg (by decide), if_pos rfl]
  exact ⟨xw_t2 162 rfl rfl, xw_t2 163 rfl rfl, xw_t1 12 rfl rfl, xw_t2 164 rfl rfl, h1, h2⟩
theorem cdJP_checkIndex : Cond.code yJ3_checkIndex_8e157 cJ3_checkIndex_8e157 3 (some .int) ∈ xw := xw_t5 28 rfl rfl
theorem inJP_checkIndex : Cond.initialized yJ3_checkIndex_8e157.cls ∈ xw := xw_t1 17 rfl rfl
theorem imJP_checkIndex : Cond.static yJ3_checkIndex_8e157 ∈ xw := xw_t5 27 rfl rfl
theorem pmJP_checkIndex : yJ3_checkIndex_8e157.cls ≠ "java/lang/invoke/MethodHandle" ∧ yJ3_checkIndex_8e157.cls ≠ "java/lang/invoke/VarHandle" ∧ (parseMethodDescriptor yJ3_checkIndex_8e157.desc).map (fun d => d.parameters.length) = some 3 := by decide +kernel
