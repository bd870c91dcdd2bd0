/-! the law: words of its calls, its functions and their ties -/
def XCtxR (p : Program) (l : Launch) (e : Env) (R : Room) (s : State) (m : MethodId) (args : Array Value) (below : List Frame) (meth : Method) (c : Code) (cells slots : Nat) (Q : Option Value → XH → State → Prop) (G : XG) (z N0 nL : Nat) (cc : ByteArray) (own : String) (rk : Nat) : Prop :=
  p.tables.exec = Jvm.exec ∧ c.code = cc ∧ c.maxLocals = nL ∧ XKn G s ∧ s.vm.findClass own = some m.cls ∧ (∀ w ∈ xw, w.before args s = true) ∧ XHret p l e R s m args below meth c cells slots Q G z N0 nL cc rk
def XToR (R : Room) (cells slots : Nat) (cc : ByteArray) (nL : Nat) (own : String) (rk : Nat) (pc : Nat) (live : List Nat) (f : List Value → List Value → XH → XR) : Prop :=
  ∀ p l e s m args below meth c Q G z N0, XCtxR p l e R s m args below meth c cells slots Q G z N0 nL cc own rk → ∀ vs st h, XSim p l e R s m args below meth c cells slots Q G z N0 nL pc (live.zip vs) st h (f vs st h)
theorem XToR.run {B : XB} {R : Room} {cells slots : Nat} {cc : ByteArray} {nL : Nat} {own : String} {pc : Nat} {live : List Nat} {f : List Value → List Value → XH → XR} {cut : XCut} (hR : cells ≤ R.cells ∧ slots ≤ R.slots) (hB : XOK B cc nL own R.frames R.locals) (hc : ∀ pc live f, cut pc = some (live, f) → XToR R cells slots cc nL own B.2.2.2.1 pc live f) (n : Nat)
    (hf : ∀ vs st h r, f vs st h = some r → xrun B cut n pc (live.zip vs) st h = some r) : XToR R cells slots cc nL own B.2.2.2.1 pc live f := by
  intro p l e s m args below meth c Q G z N0 C vs st h
  obtain ⟨hx, hb, hml, hK, hown, hts, hret⟩ := id C
  intro rv h' hr
  exact xrun_sound hx hb hml hK hown hts hR hB hret (fun pc live f h => hc pc live f h p l e s m args below meth c Q G z N0 C) n pc _ st h rv h' (hf vs st h _ hr)
theorem XToR.none {R : Room} {cells slots : Nat} {cc : ByteArray} {nL : Nat} {own : String} {rk pc : Nat} {live : List Nat} {f : List Value → List Value → XH → XR} (h : ∀ vs st h, f vs st h = none) : XToR R cells slots cc nL own rk pc live f := by
  intro p l e s m args below meth c Q G z N0 C vs st hh
  rw [h]
  exact XSim.none
theorem xcutsR_ok {L : List (Nat × (List Nat × (List Value → List Value → XH → XR)))} {R : Room} {cells slots : Nat} {cc : ByteArray} {nL : Nat} {own : String} {rk : Nat} (h : ∀ q ∈ L, XToR R cells slots cc nL own rk q.1 q.2.1 q.2.2) : ∀ pc live f, xfind L pc = some (live, f) → XToR R cells slots cc nL own rk pc live f := fun _ _ _ hf => h _ (xfind_mem hf)
theorem lkL_13 : Cond.methodLink RL 13 yX8_append ∈ xw := xw_t2 54 rfl rfl
theorem lkL_17 : Cond.methodLink RL 17 yX9_append ∈ xw := xw_t5 218 rfl rfl
theorem lkL_18 : Cond.methodLink RL 18 yX8_truncate ∈ xw := xw_t2 66 rfl rfl
theorem lkL_22 : Cond.methodLink RL 22 yX9_truncate ∈ xw := xw_t5 226 rfl rfl
theorem lkL_23 : Cond.methodLink RL 23 yX8_load ∈ xw := xw_t2 70 rfl rfl
theorem lkL_27 : Cond.methodLink RL 27 yX9_load ∈ xw := xw_t5 233 rfl rfl
theorem lkL_28 : Cond.methodLink RL 28 yX8_errorPosition ∈ xw := xw_t2 236 rfl rfl
theorem lkL_31 : Cond.methodLink RL 31 yX9_errorPosition ∈ xw := xw_t6 93 rfl rfl
theorem lkL_32 : Cond.methodLink RL 32 yX8_moveBend ∈ xw := xw_t3 0 rfl rfl
theorem lkL_36 : Cond.methodLink RL 36 yX9_moveBend ∈ xw := xw_t6 101 rfl rfl
theorem lkL_37 : Cond.methodLink RL 37 yX8_insert ∈ xw := xw_t3 73 rfl rfl
theorem lkL_40 : Cond.methodLink RL 40 yX9_insert ∈ xw := xw_t7 11 rfl rfl
theorem lkL_41 : Cond.methodLink RL 41 yX8_removePoint ∈ xw := xw_t3 78 rfl rfl
theorem lkL_45 : Cond.methodLink RL 45 yX9_removePoint ∈ xw := xw_t7 15 rfl rfl
theorem lkL_46 : Cond.methodLink RL 46 yX8_reverse ∈ xw := xw_t3 86 rfl rfl
theorem lkL_49 : Cond.methodLink RL 49 yX9_reverse ∈ xw := xw_t7 19 rfl rfl
theorem lkL_50 : Cond.methodLink RL 50 yX8_setStops ∈ xw := xw_t3 94 rfl rfl
theorem lkL_53 : Cond.methodLink RL 53 yX9_setStops ∈ xw := xw_t7 23 rfl rfl
theorem lkL_54 : Cond.methodLink RL 54 yX8_setSize ∈ xw := xw_t3 98 rfl rfl
theorem lkL_57 : Cond.methodLink RL 57 yX9_setSize ∈ xw := xw_t7 33 rfl rfl
theorem lkL_58 : Cond.methodLink RL 58 yX8_label ∈ xw := xw_t3 102 rfl rfl
theorem lkL_62 : Cond.methodLink RL 62 yX9_label ∈ xw := xw_t7 38 rfl rfl
theorem lkL_63 : Cond.methodLink RL 63 yX8_unlabel ∈ xw := xw_t3 143 rfl rfl
theorem lkL_66 : Cond.methodLink RL 66 yX9_unlabel ∈ xw := xw_t7 54 rfl rfl
theorem lkL_67 : Cond.methodLink RL 67 yX8_dodge ∈ xw := xw_t3 147 rfl rfl
theorem lkL_70 : Cond.methodLink RL 70 yX9_dodge ∈ xw := xw_t7 58 rfl rfl
theorem lkL_71 : Cond.methodLink RL 71 yX8_labelAll ∈ xw := xw_t3 168 rfl rfl
theorem lkL_74 : Cond.methodLink RL 74 yX9_labelAll ∈ xw := xw_t7 78 rfl rfl
theorem lkL_75 : Cond.methodLink RL 75 yX8_keep ∈ xw := xw_t3 180 rfl rfl
theorem lkL_78 : Cond.methodLink RL 78 yX9_keep ∈ xw := xw_t7 86 rfl rfl
theorem lkL_79 : Cond.methodLink RL 79 yX8_restore ∈ xw := xw_t3 187 rfl rfl
theorem lkL_82 : Cond.methodLink RL 82 yX9_restore ∈ xw := xw_t7 94 rfl rfl
theorem lkL_83 : Cond.methodLink RL 83 yX8_undo ∈ xw := xw_t3 195 rfl rfl
theorem lkL_86 : Cond.methodLink RL 86 yX9_undo ∈ xw := xw_t6 97 rfl rfl
theorem lkL_87 : Cond.methodLink RL 87 yX8_value ∈ xw := xw_t3 203 rfl rfl
theorem lkL_90 : Cond.methodLink RL 90 yX9_value ∈ xw := xw_t7 98 rfl rfl
theorem lkL_91 : Cond.methodLink RL 91 yX8_line ∈ xw := xw_t4 18 rfl rfl
theorem lkL_94 : Cond.methodLink RL 94 yX9_line ∈ xw := xw_t7 144 rfl rfl
theorem lkL_95 : Cond.methodLink RL 95 yX8_point ∈ xw := xw_t4 43 rfl rfl
theorem lkL_99 : Cond.methodLink RL 99 yX9_point ∈ xw := xw_t7 160 rfl rfl
theorem lkL_100 : Cond.methodLink RL 100 yX8_turn ∈ xw := xw_t4 47 rfl rfl
theorem lkL_103 : Cond.methodLink RL 103 yX9_turn ∈ xw := xw_t7 164 rfl rfl
theorem lkL_104 : Cond.methodLink RL 104 yX8_station ∈ xw := xw_t4 52 rfl rfl
theorem lkL_107 : Cond.methodLink RL 107 yX9_station ∈ xw := xw_t7 168 rfl rfl
theorem lkL_108 : Cond.methodLink RL 108 yX8_at ∈ xw := xw_t4 64 rfl rfl
theorem lkL_111 : Cond.methodLink RL 111 yX9_at ∈ xw := xw_t7 176 rfl rfl
theorem lkL_112 : Cond.methodLink RL 112 yX8_linesAt ∈ xw := xw_t4 69 rfl rfl
theorem lkL_115 : Cond.methodLink RL 115 yX9_linesAt ∈ xw := xw_t7 180 rfl rfl
theorem lkL_116 : Cond.methodLink RL 116 yX8_uneven ∈ xw := xw_t4 73 rfl rfl
theorem lkL_119 : Cond.methodLink RL 119 yX9_uneven ∈ xw := xw_t7 184 rfl rfl
theorem lkL_120 : Cond.methodLink RL 120 yX8_crookedest ∈ xw := xw_t4 82 rfl rfl
theorem lkL_123 : Cond.methodLink RL 123 yX9_crookedest ∈ xw := xw_t7 189 rfl rfl
theorem lkL_124 : Cond.methodLink RL 124 yX8_nearest ∈ xw := xw_t4 86 rfl rfl
theorem lkL_127 : Cond.methodLink RL 127 yX9_nearest ∈ xw := xw_t7 193 rfl rfl
theorem lkL_128 : Cond.methodLink RL 128 yX8_both ∈ xw := xw_t4 98 rfl rfl
theorem lkL_131 : Cond.methodLink RL 131 yX9_both ∈ xw := xw_t7 200 rfl rfl
theorem lkL_132 : Cond.methodLink RL 132 yX8_crossing ∈ xw := xw_t4 113 rfl rfl
theorem lkL_135 : Cond.methodLink RL 135 yX9_crossing ∈ xw := xw_t7 209 rfl rfl
theorem lkL_136 : Cond.methodLink RL 136 yX8_rides ∈ xw := xw_t4 121 rfl rfl
theorem lkL_139 : Cond.methodLink RL 139 yX9_rides ∈ xw := xw_t7 213 rfl rfl
theorem lkL_140 : Cond.methodLink RL 140 yX8_changes ∈ xw := xw_t4 143 rfl rfl
theorem lkL_143 : Cond.methodLink RL 143 yX9_changes ∈ xw := xw_t7 225 rfl rfl
theorem lkL_144 : Cond.methodLink RL 144 yX8_position ∈ xw := xw_t4 155 rfl rfl
theorem lkL_147 : Cond.methodLink RL 147 yX9_position ∈ xw := xw_t7 233 rfl rfl
theorem lkL_148 : Cond.methodLink RL 148 yX8_why ∈ xw := xw_t4 159 rfl rfl
theorem lkL_151 : Cond.methodLink RL 151 yX9_why ∈ xw := xw_t7 237 rfl rfl
theorem lkL_152 : Cond.methodLink RL 152 yX8_free ∈ xw := xw_t4 163 rfl rfl
theorem lkL_155 : Cond.methodLink RL 155 yX9_free ∈ xw := xw_t8 1 rfl rfl
theorem lkL_156 : Cond.methodLink RL 156 yX8_labelAt ∈ xw := xw_t4 167 rfl rfl
theorem lkL_159 : Cond.methodLink RL 159 yX9_labelAt ∈ xw := xw_t8 5 rfl rfl
theorem lkL_160 : Cond.methodLink RL 160 yX8_stuck ∈ xw := xw_t4 172 rfl rfl
theorem lkL_163 : Cond.methodLink RL 163 yX9_stuck ∈ xw := xw_t8 9 rfl rfl
theorem lkL_164 : Cond.methodLink RL 164 yX8_ifMoved ∈ xw := xw_t4 176 rfl rfl
theorem lkL_167 : Cond.methodLink RL 167 yX9_ifMoved ∈ xw := xw_t8 13 rfl rfl
theorem lkL_168 : Cond.methodLink RL 168 yX8_bestMove ∈ xw := xw_t4 180 rfl rfl
theorem lkL_171 : Cond.methodLink RL 171 yX9_bestMove ∈ xw := xw_t8 22 rfl rfl
theorem lkL_172 : Cond.methodLink RL 172 yX8_couldLabel ∈ xw := xw_t4 186 rfl rfl
theorem lkL_175 : Cond.methodLink RL 175 yX9_couldLabel ∈ xw := xw_t8 27 rfl rfl
theorem lkL_176 : Cond.methodLink RL 176 yX8_meanGap ∈ xw := xw_t4 190 rfl rfl
theorem lkL_180 : Cond.methodLink RL 180 yX9_meanGap ∈ xw := xw_t8 31 rfl rfl
theorem lkL_181 : Cond.methodLink RL 181 yX8_labelled ∈ xw := xw_t4 195 rfl rfl
theorem lkL_185 : Cond.methodLink RL 185 yX9_labelled ∈ xw := xw_t8 36 rfl rfl
theorem lkL_186 : Cond.methodLink RL 186 yX8_named ∈ xw := xw_t4 199 rfl rfl
theorem lkL_189 : Cond.methodLink RL 189 yX9_named ∈ xw := xw_t8 40 rfl rfl
theorem lkL_190 : Cond.methodLink RL 190 yX8_pictureLength ∈ xw := xw_t4 211 rfl rfl
theorem lkL_193 : Cond.methodLink RL 193 yX9_pictureLength ∈ xw := xw_t8 47 rfl rfl
theorem lkL_194 : Cond.methodLink RL 194 yX8_pictureByte ∈ xw := xw_t4 215 rfl rfl
theorem lkL_197 : Cond.methodLink RL 197 yX9_pictureByte ∈ xw := xw_t8 71 rfl rfl
theorem lkL_198 : Cond.methodLink RL 198 yX8_setupLength ∈ xw := xw_t4 227 rfl rfl
theorem lkL_201 : Cond.methodLink RL 201 yX9_setupLength ∈ xw := xw_t8 75 rfl rfl
theorem lkL_202 : Cond.methodLink RL 202 yX8_setupByte ∈ xw := xw_t5 66 rfl rfl
theorem lkL_205 : Cond.methodLink RL 205 yX9_setupByte ∈ xw := xw_t8 100 rfl rfl
theorem lkL_206 : Cond.methodLink RL 206 yX8_tapeLength ∈ xw := xw_t5 71 rfl rfl
theorem lkL_209 : Cond.methodLink RL 209 yX9_tapeLength ∈ xw := xw_t8 104 rfl rfl
def qL_law_1721 (k18 : Nat → Nat → Nat → Int32 → XH → XR) (a0 : Nat) (a1 : Nat) (a2 : Nat) (x3 : Int32) (h : XH) : XR :=
  k18 a0 a1 a2 (x3 + (6 : Int32)) h
def qL_law_236 (k18 : Nat → Nat → Nat → Int32 → XH → XR) (a0 : Nat) (a1 : Nat) (a2 : Nat) (x3 : Int32) (h : XH) : XR :=
  rdI h a0 (x3 + (1 : Int32)) (fun v1 =>
  rdI h a0 (x3 + (2 : Int32)) (fun v2 =>
    rdI h a0 (x3 + (3 : Int32)) (fun v3 =>
      rdI h a0 (x3 + (4 : Int32)) (fun v4 =>
        rdI h a0 (x3 + (5 : Int32)) (fun v5 =>
          isO h a1 8 (bI (qD_append a1 v1 v2 v3 v4 v5 h) (fun v7 h6 =>
            rdI h6 a0 (x3 + (1 : Int32)) (fun v8 =>
              rdI h6 a0 (x3 + (2 : Int32)) (fun v9 =>
                rdI h6 a0 (x3 + (3 : Int32)) (fun v10 =>
                  rdI h6 a0 (x3 + (4 : Int32)) (fun v11 =>
                    rdI h6 a0 (x3 + (5 : Int32)) (fun v12 =>
                      isO h6 a2 9 (bI (qM_append a2 v8 v9 v10 v11 v12 h6) (fun v14 h13 =>
                        if v7 = v14 then
                        (qL_law_1721 k18 a0 a1 a2 x3 h13)
                        else
                        rI (0 : Int32) h13))))))))))))))
def qL_law_299 (k18 : Nat → Nat → Nat → Int32 → XH → XR) (a0 : Nat) (a1 : Nat) (a2 : Nat) (x3 : Int32) (h : XH) : XR :=
  rdI h a0 (x3 + (1 : Int32)) (fun v1 =>
  isO h a1 8 (bI (qD_truncate a1 v1 h) (fun v3 h2 =>
    rdI h2 a0 (x3 + (1 : Int32)) (fun v4 =>
      isO h2 a2 9 (bI (qM_truncate a2 v4 h2) (fun v6 h5 =>
        if v3 = v6 then
          (qL_law_1721 k18 a0 a1 a2 x3 h5)
          else
          rI (0 : Int32) h5))))))
def qL_law_322 (k18 : Nat → Nat → Nat → Int32 → XH → XR) (a0 : Nat) (a1 : Nat) (a2 : Nat) (x3 : Int32) (h : XH) : XR :=
  isO h a1 8 (bI (qD_load a1 h) (fun v2 h1 =>
  isO h1 a2 9 (bI (qM_load a2 h1) (fun v4 h3 =>
    if v2 = v4 then
      (qL_law_1721 k18 a0 a1 a2 x3 h3)
      else
      rI (0 : Int32) h3))))
def qL_law_335 (k18 : Nat → Nat → Nat → Int32 → XH → XR) (a0 : Nat) (a1 : Nat) (a2 : Nat) (x3 : Int32) (h : XH) : XR :=
  isO h a1 8 (bI (qD_errorPosition a1 h) (fun v2 h1 =>
  isO h1 a2 9 (bI (qM_errorPosition a2 h1) (fun v4 h3 =>
    if v2 = v4 then
      (qL_law_1721 k18 a0 a1 a2 x3 h3)
      else
      rI (0 : Int32) h3))))
def qL_law_348 (k18 : Nat → Nat → Nat → Int32 → XH → XR) (a0 : Nat) (a1 : Nat) (a2 : Nat) (x3 : Int32) (h : XH) : XR :=
  rdI h a0 (x3 + (1 : Int32)) (fun v1 =>
  rdI h a0 (x3 + (2 : Int32)) (fun v2 =>
    rdI h a0 (x3 + (3 : Int32)) (fun v3 =>
      rdI h a0 (x3 + (4 : Int32)) (fun v4 =>
        isO h a1 8 (bI (qD_moveBend a1 v1 v2 v3 v4 h) (fun v6 h5 =>
          rdI h5 a0 (x3 + (1 : Int32)) (fun v7 =>
            rdI h5 a0 (x3 + (2 : Int32)) (fun v8 =>
              rdI h5 a0 (x3 + (3 : Int32)) (fun v9 =>
                rdI h5 a0 (x3 + (4 : Int32)) (fun v10 =>
                  isO h5 a2 9 (bI (qM_moveBend a2 v7 v8 v9 v10 h5) (fun v12 h11 =>
                    if v6 = v12 then
                      (qL_law_1721 k18 a0 a1 a2 x3 h11)
                      else
                      rI (0 : Int32) h11))))))))))))
def qL_law_401 (k18 : Nat → Nat → Nat → Int32 → XH → XR) (a0 : Nat) (a1 : Nat) (a2 : Nat) (x3 : Int32) (h : XH) : XR :=
  rdI h a0 (x3 + (1 : Int32)) (fun v1 =>
  rdI h a0 (x3 + (2 : Int32)) (fun v2 =>
    rdI h a0 (x3 + (3 : Int32)) (fun v3 =>
      rdI h a0 (x3 + (4 : Int32)) (fun v4 =>
        isO h a1 8 (bI (qD_insert a1 v1 v2 v3 v4 h) (fun v6 h5 =>
          rdI h5 a0 (x3 + (1 : Int32)) (fun v7 =>
            rdI h5 a0 (x3 + (2 : Int32)) (fun v8 =>
              rdI h5 a0 (x3 + (3 : Int32)) (fun v9 =>
                rdI h5 a0 (x3 + (4 : Int32)) (fun v10 =>
                  isO h5 a2 9 (bI (qM_insert a2 v7 v8 v9 v10 h5) (fun v12 h11 =>
                    if v6 = v12 then
                      (qL_law_1721 k18 a0 a1 a2 x3 h11)
                      else
                      rI (0 : Int32) h11))))))))))))
def qL_law_454 (k18 : Nat → Nat → Nat → Int32 → XH → XR) (a0 : Nat) (a1 : Nat) (a2 : Nat) (x3 : Int32) (h : XH) : XR :=
  rdI h a0 (x3 + (1 : Int32)) (fun v1 =>
  rdI h a0 (x3 + (2 : Int32)) (fun v2 =>
    isO h a1 8 (bI (qD_removePoint a1 v1 v2 h) (fun v4 h3 =>
      rdI h3 a0 (x3 + (1 : Int32)) (fun v5 =>
        rdI h3 a0 (x3 + (2 : Int32)) (fun v6 =>
          isO h3 a2 9 (bI (qM_removePoint a2 v5 v6 h3) (fun v8 h7 =>
            if v4 = v8 then
              (qL_law_1721 k18 a0 a1 a2 x3 h7)
              else
              rI (0 : Int32) h7))))))))
def qL_law_487 (k18 : Nat → Nat → Nat → Int32 → XH → XR) (a0 : Nat) (a1 : Nat) (a2 : Nat) (x3 : Int32) (h : XH) : XR :=
  rdI h a0 (x3 + (1 : Int32)) (fun v1 =>
  isO h a1 8 (bI (qD_reverse a1 v1 h) (fun v3 h2 =>
    rdI h2 a0 (x3 + (1 : Int32)) (fun v4 =>
      isO h2 a2 9 (bI (qM_reverse a2 v4 h2) (fun v6 h5 =>
        if v3 = v6 then
          (qL_law_1721 k18 a0 a1 a2 x3 h5)
          else
          rI (0 : Int32) h5))))))
def qL_law_510 (k18 : Nat → Nat → Nat → Int32 → XH → XR) (a0 : Nat) (a1 : Nat) (a2 : Nat) (x3 : Int32) (h : XH) : XR :=
  rdI h a0 (x3 + (1 : Int32)) (fun v1 =>
  rdI h a0 (x3 + (2 : Int32)) (fun v2 =>
    isO h a1 8 (bI (qD_setStops a1 v1 v2 h) (fun v4 h3 =>
      rdI h3 a0 (x3 + (1 : Int32)) (fun v5 =>
        rdI h3 a0 (x3 + (2 : Int32)) (fun v6 =>
          isO h3 a2 9 (bI (qM_setStops a2 v5 v6 h3) (fun v8 h7 =>
            if v4 = v8 then
              (qL_law_1721 k18 a0 a1 a2 x3 h7)
              else
              rI (0 : Int32) h7))))))))
def qL_law_543 (k18 : Nat → Nat → Nat → Int32 → XH → XR) (a0 : Nat) (a1 : Nat) (a2 : Nat) (x3 : Int32) (h : XH) : XR :=
  rdI h a0 (x3 + (1 : Int32)) (fun v1 =>
  rdI h a0 (x3 + (2 : Int32)) (fun v2 =>
    isO h a1 8 (bI (qD_setSize a1 v1 v2 h) (fun v4 h3 =>
      rdI h3 a0 (x3 + (1 : Int32)) (fun v5 =>
        rdI h3 a0 (x3 + (2 : Int32)) (fun v6 =>
          isO h3 a2 9 (bI (qM_setSize a2 v5 v6 h3) (fun v8 h7 =>
            if v4 = v8 then
              (qL_law_1721 k18 a0 a1 a2 x3 h7)
              else
              rI (0 : Int32) h7))))))))
def qL_law_576 (k18 : Nat → Nat → Nat → Int32 → XH → XR) (a0 : Nat) (a1 : Nat) (a2 : Nat) (x3 : Int32) (h : XH) : XR :=
  rdI h a0 (x3 + (1 : Int32)) (fun v1 =>
  rdI h a0 (x3 + (2 : Int32)) (fun v2 =>
    rdI h a0 (x3 + (3 : Int32)) (fun v3 =>
      isO h a1 8 (bI (qD_label a1 v1 v2 v3 h) (fun v5 h4 =>
        rdI h4 a0 (x3 + (1 : Int32)) (fun v6 =>
          rdI h4 a0 (x3 + (2 : Int32)) (fun v7 =>
            rdI h4 a0 (x3 + (3 : Int32)) (fun v8 =>
              isO h4 a2 9 (bI (qM_label a2 v6 v7 v8 h4) (fun v10 h9 =>
                if v5 = v10 then
                  (qL_law_1721 k18 a0 a1 a2 x3 h9)
                  else
                  rI (0 : Int32) h9))))))))))
def qL_law_619 (k18 : Nat → Nat → Nat → Int32 → XH → XR) (a0 : Nat) (a1 : Nat) (a2 : Nat) (x3 : Int32) (h : XH) : XR :=
  rdI h a0 (x3 + (1 : Int32)) (fun v1 =>
  rdI h a0 (x3 + (2 : Int32)) (fun v2 =>
    isO h a1 8 (bI (qD_unlabel a1 v1 v2 h) (fun v4 h3 =>
      rdI h3 a0 (x3 + (1 : Int32)) (fun v5 =>
        rdI h3 a0 (x3 + (2 : Int32)) (fun v6 =>
          isO h3 a2 9 (bI (qM_unlabel a2 v5 v6 h3) (fun v8 h7 =>
            if v4 = v8 then
              (qL_law_1721 k18 a0 a1 a2 x3 h7)
              else
              rI (0 : Int32) h7))))))))
def qL_law_652 (k18 : Nat → Nat → Nat → Int32 → XH → XR) (a0 : Nat) (a1 : Nat) (a2 : Nat) (x3 : Int32) (h : XH) : XR :=
  rdI h a0 (x3 + (1 : Int32)) (fun v1 =>
  rdI h a0 (x3 + (2 : Int32)) (fun v2 =>
    isO h a1 8 (bI (qD_dodge a1 v1 v2 h) (fun v4 h3 =>
      rdI h3 a0 (x3 + (1 : Int32)) (fun v5 =>
        rdI h3 a0 (x3 + (2 : Int32)) (fun v6 =>
          isO h3 a2 9 (bI (qM_dodge a2 v5 v6 h3) (fun v8 h7 =>
            if v4 = v8 then
              (qL_law_1721 k18 a0 a1 a2 x3 h7)
              else
              rI (0 : Int32) h7))))))))
def qL_law_685 (k18 : Nat → Nat → Nat → Int32 → XH → XR) (a0 : Nat) (a1 : Nat) (a2 : Nat) (x3 : Int32) (h : XH) : XR :=
  isO h a1 8 (bI (qD_labelAll a1 h) (fun v2 h1 =>
  isO h1 a2 9 (bI (qM_labelAll a2 h1) (fun v4 h3 =>
    if v2 = v4 then
      (qL_law_1721 k18 a0 a1 a2 x3 h3)
      else
      rI (0 : Int32) h3))))
def qL_law_698 (k18 : Nat → Nat → Nat → Int32 → XH → XR) (a0 : Nat) (a1 : Nat) (a2 : Nat) (x3 : Int32) (h : XH) : XR :=
  rdI h a0 (x3 + (1 : Int32)) (fun v1 =>
  isO h a1 8 (bI (qD_keep a1 v1 h) (fun v3 h2 =>
    rdI h2 a0 (x3 + (1 : Int32)) (fun v4 =>
      isO h2 a2 9 (bI (qM_keep a2 v4 h2) (fun v6 h5 =>
        if v3 = v6 then
          (qL_law_1721 k18 a0 a1 a2 x3 h5)
          else
          rI (0 : Int32) h5))))))
def qL_law_721 (k18 : Nat → Nat → Nat → Int32 → XH → XR) (a0 : Nat) (a1 : Nat) (a2 : Nat) (x3 : Int32) (h : XH) : XR :=
  rdI h a0 (x3 + (1 : Int32)) (fun v1 =>
  isO h a1 8 (bI (qD_restore a1 v1 h) (fun v3 h2 =>
    rdI h2 a0 (x3 + (1 : Int32)) (fun v4 =>
      isO h2 a2 9 (bI (qM_restore a2 v4 h2) (fun v6 h5 =>
        if v3 = v6 then
          (qL_law_1721 k18 a0 a1 a2 x3 h5)
          else
          rI (0 : Int32) h5))))))
def qL_law_744 (k18 : Nat → Nat → Nat → Int32 → XH → XR) (a0 : Nat) (a1 : Nat) (a2 : Nat) (x3 : Int32) (h : XH) : XR :=
  isO h a1 8 (bI (qD_undo a1 h) (fun v2 h1 =>
  isO h1 a2 9 (bI (qM_undo a2 h1) (fun v4 h3 =>
    if v2 = v4 then
      (qL_law_1721 k18 a0 a1 a2 x3 h3)
      else
      rI (0 : Int32) h3))))
def qL_law_757 (k18 : Nat → Nat → Nat → Int32 → XH → XR) (a0 : Nat) (a1 : Nat) (a2 : Nat) (x3 : Int32) (h : XH) : XR :=
  rdI h a0 (x3 + (1 : Int32)) (fun v1 =>
  isO h a1 8 (bI (qD_value a1 v1 h) (fun v3 h2 =>
    rdI h2 a0 (x3 + (1 : Int32)) (fun v4 =>
      isO h2 a2 9 (bI (qM_value a2 v4 h2) (fun v6 h5 =>
        if v3 = v6 then
          (qL_law_1721 k18 a0 a1 a2 x3 h5)
          else
          rI (0 : Int32) h5))))))
def qL_law_780 (k18 : Nat → Nat → Nat → Int32 → XH → XR) (a0 : Nat) (a1 : Nat) (a2 : Nat) (x3 : Int32) (h : XH) : XR :=
  rdI h a0 (x3 + (1 : Int32)) (fun v1 =>
  rdI h a0 (x3 + (2 : Int32)) (fun v2 =>
    isO h a1 8 (bI (qD_line a1 v1 v2 h) (fun v4 h3 =>
      rdI h3 a0 (x3 + (1 : Int32)) (fun v5 =>
        rdI h3 a0 (x3 + (2 : Int32)) (fun v6 =>
          isO h3 a2 9 (bI (qM_line a2 v5 v6 h3) (fun v8 h7 =>
            if v4 = v8 then
              (qL_law_1721 k18 a0 a1 a2 x3 h7)
              else
              rI (0 : Int32) h7))))))))
def qL_law_864 (k18 : Nat → Nat → Nat → Int32 → XH → XR) (a0 : Nat) (a1 : Nat) (a2 : Nat) (x3 : Int32) (s0 : Int32) (s1 : Int32) (s2 : Int32) (s3 : Nat) (s4 : Int32) (h : XH) : XR :=
  isO h s3 9 (bI (qM_point s3 s2 s1 s0 h) (fun v2 h1 =>
  if s4 = v2 then
    (qL_law_1721 k18 a0 a1 a2 x3 h1)
    else
    rI (0 : Int32) h1))
def qL_law_837 (k18 : Nat → Nat → Nat → Int32 → XH → XR) (a0 : Nat) (a1 : Nat) (a2 : Nat) (x3 : Int32) (s0 : Int32) (s1 : Int32) (s2 : Int32) (s3 : Nat) (h : XH) : XR :=
  isO h s3 8 (bI (qD_point s3 s2 s1 s0 h) (fun v2 h1 =>
  rdI h1 a0 (x3 + (1 : Int32)) (fun v3 =>
    rdI h1 a0 (x3 + (2 : Int32)) (fun v4 =>
      rdI h1 a0 (x3 + (3 : Int32)) (fun v5 =>
        if v5 = (0 : Int32) then
          (qL_law_864 k18 a0 a1 a2 x3 (0 : Int32) v4 v3 a2 v2 h1)
          else
          qL_law_864 k18 a0 a1 a2 x3 (1 : Int32) v4 v3 a2 v2 h1)))))
def qL_law_813 (k18 : Nat → Nat → Nat → Int32 → XH → XR) (a0 : Nat) (a1 : Nat) (a2 : Nat) (x3 : Int32) (h : XH) : XR :=
  rdI h a0 (x3 + (1 : Int32)) (fun v1 =>
  rdI h a0 (x3 + (2 : Int32)) (fun v2 =>
    rdI h a0 (x3 + (3 : Int32)) (fun v3 =>
      if v3 = (0 : Int32) then
        (qL_law_837 k18 a0 a1 a2 x3 (0 : Int32) v2 v1 a1 h)
        else
        qL_law_837 k18 a0 a1 a2 x3 (1 : Int32) v2 v1 a1 h)))
def qL_law_872 (k18 : Nat → Nat → Nat → Int32 → XH → XR) (a0 : Nat) (a1 : Nat) (a2 : Nat) (x3 : Int32) (h : XH) : XR :=
  rdI h a0 (x3 + (1 : Int32)) (fun v1 =>
  rdI h a0 (x3 + (2 : Int32)) (fun v2 =>
    isO h a1 8 (bI (qD_turn a1 v1 v2 h) (fun v4 h3 =>
      rdI h3 a0 (x3 + (1 : Int32)) (fun v5 =>
        rdI h3 a0 (x3 + (2 : Int32)) (fun v6 =>
          isO h3 a2 9 (bI (qM_turn a2 v5 v6 h3) (fun v8 h7 =>
            if v4 = v8 then
              (qL_law_1721 k18 a0 a1 a2 x3 h7)
              else
              rI (0 : Int32) h7))))))))
def qL_law_905 (k18 : Nat → Nat → Nat → Int32 → XH → XR) (a0 : Nat) (a1 : Nat) (a2 : Nat) (x3 : Int32) (h : XH) : XR :=
  rdI h a0 (x3 + (1 : Int32)) (fun v1 =>
  rdI h a0 (x3 + (2 : Int32)) (fun v2 =>
    rdI h a0 (x3 + (3 : Int32)) (fun v3 =>
      isO h a1 8 (bI (qD_station a1 v1 v2 v3 h) (fun v5 h4 =>
        rdI h4 a0 (x3 + (1 : Int32)) (fun v6 =>
          rdI h4 a0 (x3 + (2 : Int32)) (fun v7 =>
            rdI h4 a0 (x3 + (3 : Int32)) (fun v8 =>
              isO h4 a2 9 (bI (qM_station a2 v6 v7 v8 h4) (fun v10 h9 =>
                if v5 = v10 then
                  (qL_law_1721 k18 a0 a1 a2 x3 h9)
                  else
                  rI (0 : Int32) h9))))))))))
def qL_law_948 (k18 : Nat → Nat → Nat → Int32 → XH → XR) (a0 : Nat) (a1 : Nat) (a2 : Nat) (x3 : Int32) (h : XH) : XR :=
  rdI h a0 (x3 + (1 : Int32)) (fun v1 =>
  rdI h a0 (x3 + (2 : Int32)) (fun v2 =>
    isO h a1 8 (bI (qD_at a1 v1 v2 h) (fun v4 h3 =>
      rdI h3 a0 (x3 + (1 : Int32)) (fun v5 =>
        rdI h3 a0 (x3 + (2 : Int32)) (fun v6 =>
          isO h3 a2 9 (bI (qM_at a2 v5 v6 h3) (fun v8 h7 =>
            if v4 = v8 then
              (qL_law_1721 k18 a0 a1 a2 x3 h7)
              else
              rI (0 : Int32) h7))))))))
def qL_law_981 (k18 : Nat → Nat → Nat → Int32 → XH → XR) (a0 : Nat) (a1 : Nat) (a2 : Nat) (x3 : Int32) (h : XH) : XR :=
  rdI h a0 (x3 + (1 : Int32)) (fun v1 =>
  rdI h a0 (x3 + (2 : Int32)) (fun v2 =>
    isO h a1 8 (bI (qD_linesAt a1 v1 v2 h) (fun v4 h3 =>
      rdI h3 a0 (x3 + (1 : Int32)) (fun v5 =>
        rdI h3 a0 (x3 + (2 : Int32)) (fun v6 =>
          isO h3 a2 9 (bI (qM_linesAt a2 v5 v6 h3) (fun v8 h7 =>
            if v4 = v8 then
              (qL_law_1721 k18 a0 a1 a2 x3 h7)
              else
              rI (0 : Int32) h7))))))))
def qL_law_1014 (k18 : Nat → Nat → Nat → Int32 → XH → XR) (a0 : Nat) (a1 : Nat) (a2 : Nat) (x3 : Int32) (h : XH) : XR :=
  rdI h a0 (x3 + (1 : Int32)) (fun v1 =>
  isO h a1 8 (bI (qD_uneven a1 v1 h) (fun v3 h2 =>
    rdI h2 a0 (x3 + (1 : Int32)) (fun v4 =>
      isO h2 a2 9 (bI (qM_uneven a2 v4 h2) (fun v6 h5 =>
        if v3 = v6 then
          (qL_law_1721 k18 a0 a1 a2 x3 h5)
          else
          rI (0 : Int32) h5))))))
def qL_law_1037 (k18 : Nat → Nat → Nat → Int32 → XH → XR) (a0 : Nat) (a1 : Nat) (a2 : Nat) (x3 : Int32) (h : XH) : XR :=
  isO h a1 8 (bI (qD_crookedest a1 h) (fun v2 h1 =>
  isO h1 a2 9 (bI (qM_crookedest a2 h1) (fun v4 h3 =>
    if v2 = v4 then
      (qL_law_1721 k18 a0 a1 a2 x3 h3)
      else
      rI (0 : Int32) h3))))
def qL_law_1050 (k18 : Nat → Nat → Nat → Int32 → XH → XR) (a0 : Nat) (a1 : Nat) (a2 : Nat) (x3 : Int32) (h : XH) : XR :=
  rdI h a0 (x3 + (1 : Int32)) (fun v1 =>
  rdI h a0 (x3 + (2 : Int32)) (fun v2 =>
    isO h a1 8 (bI (qD_nearest a1 v1 v2 h) (fun v4 h3 =>
      rdI h3 a0 (x3 + (1 : Int32)) (fun v5 =>
        rdI h3 a0 (x3 + (2 : Int32)) (fun v6 =>
          isO h3 a2 9 (bI (qM_nearest a2 v5 v6 h3) (fun v8 h7 =>
            if v4 = v8 then
              (qL_law_1721 k18 a0 a1 a2 x3 h7)
              else
              rI (0 : Int32) h7))))))))
def qL_law_1083 (k18 : Nat → Nat → Nat → Int32 → XH → XR) (a0 : Nat) (a1 : Nat) (a2 : Nat) (x3 : Int32) (h : XH) : XR :=
  rdI h a0 (x3 + (1 : Int32)) (fun v1 =>
  rdI h a0 (x3 + (2 : Int32)) (fun v2 =>
    rdI h a0 (x3 + (3 : Int32)) (fun v3 =>
      isO h a1 8 (bI (qD_both a1 v1 v2 v3 h) (fun v5 h4 =>
        rdI h4 a0 (x3 + (1 : Int32)) (fun v6 =>
          rdI h4 a0 (x3 + (2 : Int32)) (fun v7 =>
            rdI h4 a0 (x3 + (3 : Int32)) (fun v8 =>
              isO h4 a2 9 (bI (qM_both a2 v6 v7 v8 h4) (fun v10 h9 =>
                if v5 = v10 then
                  (qL_law_1721 k18 a0 a1 a2 x3 h9)
                  else
                  rI (0 : Int32) h9))))))))))
def qL_law_1126 (k18 : Nat → Nat → Nat → Int32 → XH → XR) (a0 : Nat) (a1 : Nat) (a2 : Nat) (x3 : Int32) (h : XH) : XR :=
  rdI h a0 (x3 + (1 : Int32)) (fun v1 =>
  isO h a1 8 (bI (qD_crossing a1 v1 h) (fun v3 h2 =>
    rdI h2 a0 (x3 + (1 : Int32)) (fun v4 =>
      isO h2 a2 9 (bI (qM_crossing a2 v4 h2) (fun v6 h5 =>
        if v3 = v6 then
          (qL_law_1721 k18 a0 a1 a2 x3 h5)
          else
          rI (0 : Int32) h5))))))
def qL_law_1149 (k18 : Nat → Nat → Nat → Int32 → XH → XR) (a0 : Nat) (a1 : Nat) (a2 : Nat) (x3 : Int32) (h : XH) : XR :=
  rdI h a0 (x3 + (1 : Int32)) (fun v1 =>
  rdI h a0 (x3 + (2 : Int32)) (fun v2 =>
    rdI h a0 (x3 + (3 : Int32)) (fun v3 =>
      rdI h a0 (x3 + (4 : Int32)) (fun v4 =>
        isO h a1 8 (bI (qD_rides a1 v1 v2 v3 v4 h) (fun v6 h5 =>
          rdI h5 a0 (x3 + (1 : Int32)) (fun v7 =>
            rdI h5 a0 (x3 + (2 : Int32)) (fun v8 =>
              rdI h5 a0 (x3 + (3 : Int32)) (fun v9 =>
                rdI h5 a0 (x3 + (4 : Int32)) (fun v10 =>
                  isO h5 a2 9 (bI (qM_rides a2 v7 v8 v9 v10 h5) (fun v12 h11 =>
                    if v6 = v12 then
                      (qL_law_1721 k18 a0 a1 a2 x3 h11)
                      else
                      rI (0 : Int32) h11))))))))))))
def qL_law_1202 (k18 : Nat → Nat → Nat → Int32 → XH → XR) (a0 : Nat) (a1 : Nat) (a2 : Nat) (x3 : Int32) (h : XH) : XR :=
  rdI h a0 (x3 + (1 : Int32)) (fun v1 =>
  rdI h a0 (x3 + (2 : Int32)) (fun v2 =>
    rdI h a0 (x3 + (3 : Int32)) (fun v3 =>
      rdI h a0 (x3 + (4 : Int32)) (fun v4 =>
        isO h a1 8 (bI (qD_changes a1 v1 v2 v3 v4 h) (fun v6 h5 =>
          rdI h5 a0 (x3 + (1 : Int32)) (fun v7 =>
            rdI h5 a0 (x3 + (2 : Int32)) (fun v8 =>
              rdI h5 a0 (x3 + (3 : Int32)) (fun v9 =>
                rdI h5 a0 (x3 + (4 : Int32)) (fun v10 =>
                  isO h5 a2 9 (bI (qM_changes a2 v7 v8 v9 v10 h5) (fun v12 h11 =>
                    if v6 = v12 then
                      (qL_law_1721 k18 a0 a1 a2 x3 h11)
                      else
                      rI (0 : Int32) h11))))))))))))
def qL_law_1255 (k18 : Nat → Nat → Nat → Int32 → XH → XR) (a0 : Nat) (a1 : Nat) (a2 : Nat) (x3 : Int32) (h : XH) : XR :=
  rdI h a0 (x3 + (1 : Int32)) (fun v1 =>
  rdI h a0 (x3 + (2 : Int32)) (fun v2 =>
    isO h a1 8 (bI (qD_position a1 v1 v2 h) (fun v4 h3 =>
      rdI h3 a0 (x3 + (1 : Int32)) (fun v5 =>
        rdI h3 a0 (x3 + (2 : Int32)) (fun v6 =>
          isO h3 a2 9 (bI (qM_position a2 v5 v6 h3) (fun v8 h7 =>
            if v4 = v8 then
              (qL_law_1721 k18 a0 a1 a2 x3 h7)
              else
              rI (0 : Int32) h7))))))))
def qL_law_1288 (k18 : Nat → Nat → Nat → Int32 → XH → XR) (a0 : Nat) (a1 : Nat) (a2 : Nat) (x3 : Int32) (h : XH) : XR :=
  rdI h a0 (x3 + (1 : Int32)) (fun v1 =>
  rdI h a0 (x3 + (2 : Int32)) (fun v2 =>
    rdI h a0 (x3 + (3 : Int32)) (fun v3 =>
      isO h a1 8 (bI (qD_why a1 v1 v2 v3 h) (fun v5 h4 =>
        rdI h4 a0 (x3 + (1 : Int32)) (fun v6 =>
          rdI h4 a0 (x3 + (2 : Int32)) (fun v7 =>
            rdI h4 a0 (x3 + (3 : Int32)) (fun v8 =>
              isO h4 a2 9 (bI (qM_why a2 v6 v7 v8 h4) (fun v10 h9 =>
                if v5 = v10 then
                  (qL_law_1721 k18 a0 a1 a2 x3 h9)
                  else
                  rI (0 : Int32) h9))))))))))
def qL_law_1331 (k18 : Nat → Nat → Nat → Int32 → XH → XR) (a0 : Nat) (a1 : Nat) (a2 : Nat) (x3 : Int32) (h : XH) : XR :=
  rdI h a0 (x3 + (1 : Int32)) (fun v1 =>
  rdI h a0 (x3 + (2 : Int32)) (fun v2 =>
    isO h a1 8 (bI (qD_free a1 v1 v2 h) (fun v4 h3 =>
      rdI h3 a0 (x3 + (1 : Int32)) (fun v5 =>
        rdI h3 a0 (x3 + (2 : Int32)) (fun v6 =>
          isO h3 a2 9 (bI (qM_free a2 v5 v6 h3) (fun v8 h7 =>
            if v4 = v8 then
              (qL_law_1721 k18 a0 a1 a2 x3 h7)
              else
              rI (0 : Int32) h7))))))))
def qL_law_1364 (k18 : Nat → Nat → Nat → Int32 → XH → XR) (a0 : Nat) (a1 : Nat) (a2 : Nat) (x3 : Int32) (h : XH) : XR :=
  rdI h a0 (x3 + (1 : Int32)) (fun v1 =>
  rdI h a0 (x3 + (2 : Int32)) (fun v2 =>
    isO h a1 8 (bI (qD_labelAt a1 v1 v2 h) (fun v4 h3 =>
      rdI h3 a0 (x3 + (1 : Int32)) (fun v5 =>
        rdI h3 a0 (x3 + (2 : Int32)) (fun v6 =>
          isO h3 a2 9 (bI (qM_labelAt a2 v5 v6 h3) (fun v8 h7 =>
            if v4 = v8 then
              (qL_law_1721 k18 a0 a1 a2 x3 h7)
              else
              rI (0 : Int32) h7))))))))
def qL_law_1397 (k18 : Nat → Nat → Nat → Int32 → XH → XR) (a0 : Nat) (a1 : Nat) (a2 : Nat) (x3 : Int32) (h : XH) : XR :=
  isO h a1 8 (bI (qD_stuck a1 h) (fun v2 h1 =>
  isO h1 a2 9 (bI (qM_stuck a2 h1) (fun v4 h3 =>
    if v2 = v4 then
      (qL_law_1721 k18 a0 a1 a2 x3 h3)
      else
      rI (0 : Int32) h3))))
def qL_law_1410 (k18 : Nat → Nat → Nat → Int32 → XH → XR) (a0 : Nat) (a1 : Nat) (a2 : Nat) (x3 : Int32) (h : XH) : XR :=
  rdI h a0 (x3 + (1 : Int32)) (fun v1 =>
  rdI h a0 (x3 + (2 : Int32)) (fun v2 =>
    rdI h a0 (x3 + (3 : Int32)) (fun v3 =>
      rdI h a0 (x3 + (4 : Int32)) (fun v4 =>
        rdI h a0 (x3 + (5 : Int32)) (fun v5 =>
          isO h a1 8 (bI (qD_ifMoved a1 v1 v2 v3 v4 v5 h) (fun v7 h6 =>
            rdI h6 a0 (x3 + (1 : Int32)) (fun v8 =>
              rdI h6 a0 (x3 + (2 : Int32)) (fun v9 =>
                rdI h6 a0 (x3 + (3 : Int32)) (fun v10 =>
                  rdI h6 a0 (x3 + (4 : Int32)) (fun v11 =>
                    rdI h6 a0 (x3 + (5 : Int32)) (fun v12 =>
                      isO h6 a2 9 (bI (qM_ifMoved a2 v8 v9 v10 v11 v12 h6) (fun v14 h13 =>
                        if v7 = v14 then
                        (qL_law_1721 k18 a0 a1 a2 x3 h13)
                        else
                        rI (0 : Int32) h13))))))))))))))
def qL_law_1473 (k18 : Nat → Nat → Nat → Int32 → XH → XR) (a0 : Nat) (a1 : Nat) (a2 : Nat) (x3 : Int32) (h : XH) : XR :=
  rdI h a0 (x3 + (1 : Int32)) (fun v1 =>
  rdI h a0 (x3 + (2 : Int32)) (fun v2 =>
    isO h a1 8 (bI (qD_bestMove a1 v1 v2 h) (fun v4 h3 =>
      rdI h3 a0 (x3 + (1 : Int32)) (fun v5 =>
        rdI h3 a0 (x3 + (2 : Int32)) (fun v6 =>
          isO h3 a2 9 (bI (qM_bestMove a2 v5 v6 h3) (fun v8 h7 =>
            if v4 = v8 then
              (qL_law_1721 k18 a0 a1 a2 x3 h7)
              else
              rI (0 : Int32) h7))))))))
def qL_law_1506 (k18 : Nat → Nat → Nat → Int32 → XH → XR) (a0 : Nat) (a1 : Nat) (a2 : Nat) (x3 : Int32) (h : XH) : XR :=
  isO h a1 8 (bI (qD_couldLabel a1 h) (fun v2 h1 =>
  isO h1 a2 9 (bI (qM_couldLabel a2 h1) (fun v4 h3 =>
    if v2 = v4 then
      (qL_law_1721 k18 a0 a1 a2 x3 h3)
      else
      rI (0 : Int32) h3))))
def qL_law_1519 (k18 : Nat → Nat → Nat → Int32 → XH → XR) (a0 : Nat) (a1 : Nat) (a2 : Nat) (x3 : Int32) (h : XH) : XR :=
  rdI h a0 (x3 + (1 : Int32)) (fun v1 =>
  isO h a1 8 (bF (qD_meanGap a1 v1 h) (fun w3 h2 =>
    f2dv w3 (fun w4 =>
      rdI h2 a0 (x3 + (1 : Int32)) (fun v5 =>
        isO h2 a2 9 (bF (qM_meanGap a2 v5 h2) (fun w7 h6 =>
          f2dv w7 (fun w8 =>
            if (Op.cmpValue (FP.dcmp w4 w8) .l) = (0 : Int32) then
              (qL_law_1721 k18 a0 a1 a2 x3 h6)
              else
              if (Op.cmpValue (FP.dcmp w4 w4) .l) = (0 : Int32) then
                (rI (0 : Int32) h6)
                else
                if (Op.cmpValue (FP.dcmp w8 w8) .l) = (0 : Int32) then
                  (rI (0 : Int32) h6)
                  else
                  qL_law_1721 k18 a0 a1 a2 x3 h6))))))))
def qL_law_1572 (k18 : Nat → Nat → Nat → Int32 → XH → XR) (a0 : Nat) (a1 : Nat) (a2 : Nat) (x3 : Int32) (h : XH) : XR :=
  isO h a1 8 (bD (qD_labelled a1 h) (fun w2 h1 =>
  isO h1 a2 9 (bD (qM_labelled a2 h1) (fun w4 h3 =>
    if (Op.cmpValue (FP.dcmp w2 w4) .l) = (0 : Int32) then
      (qL_law_1721 k18 a0 a1 a2 x3 h3)
      else
      if (Op.cmpValue (FP.dcmp w2 w2) .l) = (0 : Int32) then
        (rI (0 : Int32) h3)
        else
        if (Op.cmpValue (FP.dcmp w4 w4) .l) = (0 : Int32) then
          (rI (0 : Int32) h3)
          else
          qL_law_1721 k18 a0 a1 a2 x3 h3))))
def qL_law_1613 (k18 : Nat → Nat → Nat → Int32 → XH → XR) (a0 : Nat) (a1 : Nat) (a2 : Nat) (x3 : Int32) (h : XH) : XR :=
  rdI h a0 (x3 + (1 : Int32)) (fun v1 =>
  isO h a1 8 (bI (qD_named a1 v1 h) (fun v3 h2 =>
    rdI h2 a0 (x3 + (1 : Int32)) (fun v4 =>
      isO h2 a2 9 (bI (qM_named a2 v4 h2) (fun v6 h5 =>
        if v3 = v6 then
          (qL_law_1721 k18 a0 a1 a2 x3 h5)
          else
          rI (0 : Int32) h5))))))
def qL_law_1636 (k18 : Nat → Nat → Nat → Int32 → XH → XR) (a0 : Nat) (a1 : Nat) (a2 : Nat) (x3 : Int32) (h : XH) : XR :=
  isO h a1 8 (bI (qD_pictureLength a1 h) (fun v2 h1 =>
  isO h1 a2 9 (bI (qM_pictureLength a2 h1) (fun v4 h3 =>
    if v2 = v4 then
      (qL_law_1721 k18 a0 a1 a2 x3 h3)
      else
      rI (0 : Int32) h3))))
def qL_law_1649 (k18 : Nat → Nat → Nat → Int32 → XH → XR) (a0 : Nat) (a1 : Nat) (a2 : Nat) (x3 : Int32) (h : XH) : XR :=
  rdI h a0 (x3 + (1 : Int32)) (fun v1 =>
  isO h a1 8 (bI (qD_pictureByte a1 v1 h) (fun v3 h2 =>
    rdI h2 a0 (x3 + (1 : Int32)) (fun v4 =>
      isO h2 a2 9 (bI (qM_pictureByte a2 v4 h2) (fun v6 h5 =>
        if v3 = v6 then
          (qL_law_1721 k18 a0 a1 a2 x3 h5)
          else
          rI (0 : Int32) h5))))))
def qL_law_1672 (k18 : Nat → Nat → Nat → Int32 → XH → XR) (a0 : Nat) (a1 : Nat) (a2 : Nat) (x3 : Int32) (h : XH) : XR :=
  isO h a1 8 (bI (qD_setupLength a1 h) (fun v2 h1 =>
  isO h1 a2 9 (bI (qM_setupLength a2 h1) (fun v4 h3 =>
    if v2 = v4 then
      (qL_law_1721 k18 a0 a1 a2 x3 h3)
      else
      rI (0 : Int32) h3))))
def qL_law_1685 (k18 : Nat → Nat → Nat → Int32 → XH → XR) (a0 : Nat) (a1 : Nat) (a2 : Nat) (x3 : Int32) (h : XH) : XR :=
  rdI h a0 (x3 + (1 : Int32)) (fun v1 =>
  isO h a1 8 (bI (qD_setupByte a1 v1 h) (fun v3 h2 =>
    rdI h2 a0 (x3 + (1 : Int32)) (fun v4 =>
      isO h2 a2 9 (bI (qM_setupByte a2 v4 h2) (fun v6 h5 =>
        if v3 = v6 then
          (qL_law_1721 k18 a0 a1 a2 x3 h5)
          else
          rI (0 : Int32) h5))))))
def qL_law_1708 (k18 : Nat → Nat → Nat → Int32 → XH → XR) (a0 : Nat) (a1 : Nat) (a2 : Nat) (x3 : Int32) (h : XH) : XR :=
  isO h a1 8 (bI (qD_tapeLength a1 h) (fun v2 h1 =>
  isO h1 a2 9 (bI (qM_tapeLength a2 h1) (fun v4 h3 =>
    if v2 = v4 then
      (qL_law_1721 k18 a0 a1 a2 x3 h3)
      else
      rI (0 : Int32) h3))))
def qL_law_18_b (k18 : Nat → Nat → Nat → Int32 → XH → XR) (a0 : Nat) (a1 : Nat) (a2 : Nat) (x3 : Int32) (h : XH) : XR :=
  lnA h a0 (fun v1 =>
  if (v1 - (6 : Int32)) < x3 then
    (rI (1 : Int32) h)
    else
    rdI h a0 x3 (fun v2 =>
      if (v2 &&& (63 : Int32)) = (0 : Int32) then (qL_law_236 k18 a0 a1 a2 x3 h) else
        if (v2 &&& (63 : Int32)) = (1 : Int32) then (qL_law_299 k18 a0 a1 a2 x3 h) else
        if (v2 &&& (63 : Int32)) = (2 : Int32) then (qL_law_322 k18 a0 a1 a2 x3 h) else
        if (v2 &&& (63 : Int32)) = (3 : Int32) then (qL_law_335 k18 a0 a1 a2 x3 h) else
        if (v2 &&& (63 : Int32)) = (4 : Int32) then (qL_law_348 k18 a0 a1 a2 x3 h) else
        if (v2 &&& (63 : Int32)) = (5 : Int32) then (qL_law_401 k18 a0 a1 a2 x3 h) else
        if (v2 &&& (63 : Int32)) = (6 : Int32) then (qL_law_454 k18 a0 a1 a2 x3 h) else
        if (v2 &&& (63 : Int32)) = (7 : Int32) then (qL_law_487 k18 a0 a1 a2 x3 h) else
        if (v2 &&& (63 : Int32)) = (8 : Int32) then (qL_law_510 k18 a0 a1 a2 x3 h) else
        if (v2 &&& (63 : Int32)) = (9 : Int32) then (qL_law_543 k18 a0 a1 a2 x3 h) else
        if (v2 &&& (63 : Int32)) = (10 : Int32) then (qL_law_576 k18 a0 a1 a2 x3 h) else
        if (v2 &&& (63 : Int32)) = (11 : Int32) then (qL_law_619 k18 a0 a1 a2 x3 h) else
        if (v2 &&& (63 : Int32)) = (12 : Int32) then (qL_law_652 k18 a0 a1 a2 x3 h) else
        if (v2 &&& (63 : Int32)) = (13 : Int32) then (qL_law_685 k18 a0 a1 a2 x3 h) else
        if (v2 &&& (63 : Int32)) = (14 : Int32) then (qL_law_698 k18 a0 a1 a2 x3 h) else
        if (v2 &&& (63 : Int32)) = (15 : Int32) then (qL_law_721 k18 a0 a1 a2 x3 h) else
        if (v2 &&& (63 : Int32)) = (16 : Int32) then (qL_law_744 k18 a0 a1 a2 x3 h) else
        if (v2 &&& (63 : Int32)) = (17 : Int32) then (qL_law_757 k18 a0 a1 a2 x3 h) else
        if (v2 &&& (63 : Int32)) = (18 : Int32) then (qL_law_780 k18 a0 a1 a2 x3 h) else
        if (v2 &&& (63 : Int32)) = (19 : Int32) then (qL_law_813 k18 a0 a1 a2 x3 h) else
        if (v2 &&& (63 : Int32)) = (20 : Int32) then (qL_law_872 k18 a0 a1 a2 x3 h) else
        if (v2 &&& (63 : Int32)) = (21 : Int32) then (qL_law_905 k18 a0 a1 a2 x3 h) else
        if (v2 &&& (63 : Int32)) = (22 : Int32) then (qL_law_948 k18 a0 a1 a2 x3 h) else
        if (v2 &&& (63 : Int32)) = (23 : Int32) then (qL_law_981 k18 a0 a1 a2 x3 h) else
        if (v2 &&& (63 : Int32)) = (24 : Int32) then (qL_law_1014 k18 a0 a1 a2 x3 h) else
        if (v2 &&& (63 : Int32)) = (25 : Int32) then (qL_law_1037 k18 a0 a1 a2 x3 h) else
        if (v2 &&& (63 : Int32)) = (26 : Int32) then (qL_law_1050 k18 a0 a1 a2 x3 h) else
        if (v2 &&& (63 : Int32)) = (27 : Int32) then (qL_law_1083 k18 a0 a1 a2 x3 h) else
        if (v2 &&& (63 : Int32)) = (28 : Int32) then (qL_law_1126 k18 a0 a1 a2 x3 h) else
        if (v2 &&& (63 : Int32)) = (29 : Int32) then (qL_law_1149 k18 a0 a1 a2 x3 h) else
        if (v2 &&& (63 : Int32)) = (30 : Int32) then (qL_law_1202 k18 a0 a1 a2 x3 h) else
        if (v2 &&& (63 : Int32)) = (31 : Int32) then (qL_law_1255 k18 a0 a1 a2 x3 h) else
        if (v2 &&& (63 : Int32)) = (32 : Int32) then (qL_law_1288 k18 a0 a1 a2 x3 h) else
        if (v2 &&& (63 : Int32)) = (33 : Int32) then (qL_law_1331 k18 a0 a1 a2 x3 h) else
        if (v2 &&& (63 : Int32)) = (34 : Int32) then (qL_law_1364 k18 a0 a1 a2 x3 h) else
        if (v2 &&& (63 : Int32)) = (35 : Int32) then (qL_law_1397 k18 a0 a1 a2 x3 h) else
        if (v2 &&& (63 : Int32)) = (36 : Int32) then (qL_law_1410 k18 a0 a1 a2 x3 h) else
        if (v2 &&& (63 : Int32)) = (37 : Int32) then (qL_law_1473 k18 a0 a1 a2 x3 h) else
        if (v2 &&& (63 : Int32)) = (38 : Int32) then (qL_law_1506 k18 a0 a1 a2 x3 h) else
        if (v2 &&& (63 : Int32)) = (39 : Int32) then (qL_law_1519 k18 a0 a1 a2 x3 h) else
        if (v2 &&& (63 : Int32)) = (40 : Int32) then (qL_law_1572 k18 a0 a1 a2 x3 h) else
        if (v2 &&& (63 : Int32)) = (41 : Int32) then (qL_law_1613 k18 a0 a1 a2 x3 h) else
        if (v2 &&& (63 : Int32)) = (42 : Int32) then (qL_law_1636 k18 a0 a1 a2 x3 h) else
        if (v2 &&& (63 : Int32)) = (43 : Int32) then (qL_law_1649 k18 a0 a1 a2 x3 h) else
        if (v2 &&& (63 : Int32)) = (44 : Int32) then (qL_law_1672 k18 a0 a1 a2 x3 h) else
        if (v2 &&& (63 : Int32)) = (45 : Int32) then (qL_law_1685 k18 a0 a1 a2 x3 h) else
        if (v2 &&& (63 : Int32)) = (46 : Int32) then (qL_law_1708 k18 a0 a1 a2 x3 h) else
        qL_law_1721 k18 a0 a1 a2 x3 h))
def qL_law_18 : Nat → Nat → Nat → Nat → Int32 → XH → XR
  | 0 => fun _ _ _ _ _ => none
  | n + 1 => qL_law_18_b (qL_law_18 n)
