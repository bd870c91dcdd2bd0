-- LineDiagramModel.readAll()V
def qM_readAll_59_b (k59 : Nat → XH → XR) (a0 : Nat) (h : XH) : XR :=
  gI h a0 9 29 (fun v1 =>
  if v1 = (0 : Int32) then
    (rV h)
    else
    gI h a0 9 25 (fun v2 =>
      if v2 = (0 : Int32) then
        (rV h)
        else
        isO h a0 9 (bV (qM_readLine a0 h) (fun h3 =>
          k59 a0 h3))))
def qM_readAll_59 : Nat → Nat → XH → XR
  | 0 => fun _ _ => none
  | n + 1 => qM_readAll_59_b (qM_readAll_59 n)
def qM_readAll_56 (a0 : Nat) (s0 : Int32) (s1 : Nat) (h : XH) : XR :=
  isO h s1 9 (bV (qM_takes s1 s0 h) (fun h1 =>
  qM_readAll_59 LF a0 h1))
def qM_readAll (a0 : Nat) (h : XH) : XR :=
  isO h a0 9 (bV (qM_goesOn a0 h) (fun h1 =>
  isO h1 a0 9 (bI (qM_numberOf a0 (2590276 : Int64) (4 : Int32) (40 : Int32) h1) (fun v3 h2 =>
    pV h2 a0 9 30 (.int v3) (fun h4 =>
      isO h4 a0 9 (bI (qM_numberIn a0 (4 : Int32) (40 : Int32) h4) (fun v6 h5 =>
        pV h5 a0 9 31 (.int v6) (fun h7 =>
          isO h7 a0 9 (bI (qM_numberOf a0 (677454 : Int64) (0 : Int32) (3 : Int32) h7) (fun v9 h8 =>
            pV h8 a0 9 32 (.int v9) (fun h10 =>
              gI h10 a0 9 25 (fun v11 =>
                if v11 = (4 : Int32) then
                  (qM_readAll_56 a0 (1 : Int32) a0 h10)
                  else
                  qM_readAll_56 a0 (0 : Int32) a0 h10))))))))))))
-- LineDiagramModel.load()I
def qM_load_134 (a0 : Nat) (h : XH) : XR :=
  gI h a0 9 6 (fun v1 =>
  rI v1 h)
def qM_load_105_b (k105 : Nat → Int32 → XH → XR) (a0 : Nat) (x1 : Int32) (h : XH) : XR :=
  gI h a0 9 6 (fun v1 =>
  if x1 < ((23 : Int32) * v1) then
    (gR h a0 9 8 (fun a_2 =>
      gR h a0 9 37 (fun a_3 =>
        rdI h a_3 x1 (fun v4 =>
          wrI h a_2 x1 v4 (fun h5 =>
            k105 a0 (x1 + (1 : Int32)) h5)))))
    else
    qM_load_134 a0 h)
def qM_load_105 : Nat → Nat → Int32 → XH → XR
  | 0 => fun _ _ _ => none
  | n + 1 => qM_load_105_b (qM_load_105 n)
def qM_load_77_b (k77 : Nat → Int32 → XH → XR) (a0 : Nat) (x1 : Int32) (h : XH) : XR :=
  gI h a0 9 6 (fun v1 =>
  if x1 < v1 then
    (gR h a0 9 7 (fun a_2 =>
      gR h a0 9 36 (fun a_3 =>
        rdI h a_3 x1 (fun v4 =>
          wrI h a_2 x1 v4 (fun h5 =>
            k77 a0 (x1 + (1 : Int32)) h5)))))
    else
    qM_load_105 LF a0 (0 : Int32) h)
def qM_load_77 : Nat → Nat → Int32 → XH → XR
  | 0 => fun _ _ _ => none
  | n + 1 => qM_load_77_b (qM_load_77 n)
def qM_load (a0 : Nat) (h : XH) : XR :=
  pV h a0 9 2 (.int (-2 : Int32)) (fun h1 =>
  pV h1 a0 9 29 (.int (1 : Int32)) (fun h2 =>
    pV h2 a0 9 23 (.int (0 : Int32)) (fun h3 =>
      pV h3 a0 9 33 (.int (0 : Int32)) (fun h4 =>
        isO h4 a0 9 (bV (qM_readAll a0 h4) (fun h5 =>
          pV h5 a0 9 1 (.int (0 : Int32)) (fun h6 =>
            gI h6 a0 9 29 (fun v7 =>
              if v7 = (0 : Int32) then
                (rI (-1 : Int32) h6)
                else
                gI h6 a0 9 30 (fun v8 =>
                  pV h6 a0 9 3 (.int v8) (fun h9 =>
                    gI h9 a0 9 31 (fun v10 =>
                      pV h9 a0 9 4 (.int v10) (fun h11 =>
                        gI h11 a0 9 32 (fun v12 =>
                        pV h11 a0 9 5 (.int v12) (fun h13 =>
                        gI h13 a0 9 33 (fun v14 =>
                        pV h13 a0 9 6 (.int v14) (fun h15 =>
                        isO h15 a0 9 (bV (qM_empties a0 h15) (fun h16 =>
                        qM_load_77 LF a0 (0 : Int32) h16))))))))))))))))))
-- LineDiagram.errorPosition()I
def qD_errorPosition (a0 : Nat) (h : XH) : XR :=
  gI h a0 8 11 (fun v1 =>
  rI v1 h)
-- LineDiagramModel.errorPosition()I
def qM_errorPosition (a0 : Nat) (h : XH) : XR :=
  gI h a0 9 2 (fun v1 =>
  rI v1 h)
-- LineDiagram.isCell(II)Z
def qD_isCell (a0 : Nat) (x1 : Int32) (x2 : Int32) (h : XH) : XR :=
  if x1 < (0 : Int32) then
  (rI (0 : Int32) h)
  else
  gR h a0 8 3 (fun a_1 =>
    gI h a_1 5 0 (fun v2 =>
      if x1 < v2 then
        (if x2 < (0 : Int32) then
          (rI (0 : Int32) h)
          else
          gR h a0 8 3 (fun a_3 =>
            gI h a_3 5 1 (fun v4 =>
              if x2 < v4 then
                (rI (1 : Int32) h)
                else
                rI (0 : Int32) h)))
        else
        rI (0 : Int32) h))
-- LineDiagram.isLine(I)Z
def qD_isLine (a0 : Nat) (x1 : Int32) (h : XH) : XR :=
  if x1 < (0 : Int32) then
  (rI (0 : Int32) h)
  else
  gR h a0 8 3 (fun a_1 =>
    gI h a_1 5 3 (fun v2 =>
      if x1 < v2 then
        (rI (1 : Int32) h)
        else
        rI (0 : Int32) h))
-- LineDiagram.isPoint(II)Z
def qD_isPoint (a0 : Nat) (x1 : Int32) (x2 : Int32) (h : XH) : XR :=
  isO h a0 8 (bI (qD_isLine a0 x1 h) (fun v2 h1 =>
  if v2 = (0 : Int32) then
    (rI (0 : Int32) h1)
    else
    if x2 < (0 : Int32) then
      (rI (0 : Int32) h1)
      else
      gR h1 a0 8 3 (fun a_3 =>
        gR h1 a_3 5 4 (fun a_4 =>
          rdR h1 a_4 x1 (fun a_5 =>
            gI h1 a_5 3 1 (fun v6 =>
              if x2 < v6 then
                (rI (1 : Int32) h1)
                else
                rI (0 : Int32) h1))))))
-- LineDiagram$Line.refusal(I)I
def qLn_refusal (a0 : Nat) (x1 : Int32) (h : XH) : XR :=
  isO h a0 3 (bI (qLn_isCrooked a0 x1 h) (fun v2 h1 =>
  if v2 = (0 : Int32) then
    (isO h1 a0 3 (bI (qLn_isShort a0 h1) (fun v4 h3 =>
      if v4 = (0 : Int32) then
        (rI (0 : Int32) h3)
        else
        rI (-4 : Int32) h3)))
    else
    rI (-3 : Int32) h1))
-- LineDiagram.tryMove(IIII)I
def qD_tryMove_67 (a0 : Nat) (x2 : Int32) (x3 : Int32) (x4 : Int32) (h : XH) : XR :=
  gR h a0 8 10 (fun a_1 =>
  gR h a_1 3 4 (fun a_2 =>
    wrI h a_2 x2 x3 (fun h3 =>
      gR h3 a0 8 10 (fun a_4 =>
        gR h3 a_4 3 5 (fun a_5 =>
          wrI h3 a_5 x2 x4 (fun h6 =>
            gR h6 a0 8 10 (fun a_7 =>
              gR h6 a0 8 3 (fun a_8 =>
                gI h6 a_8 5 2 (fun v9 =>
                  isO h6 a_7 3 (bI (qLn_refusal a_7 v9 h6) (fun v11 h10 =>
                    rI v11 h10)))))))))))
def qD_tryMove (a0 : Nat) (x1 : Int32) (x2 : Int32) (x3 : Int32) (x4 : Int32) (h : XH) : XR :=
  isO h a0 8 (bI (qD_isPoint a0 x1 x2 h) (fun v2 h1 =>
  if v2 = (0 : Int32) then
    (rI (-1 : Int32) h1)
    else
    isO h1 a0 8 (bI (qD_isCell a0 x3 x4 h1) (fun v4 h3 =>
      if v4 = (0 : Int32) then
        (rI (-1 : Int32) h3)
        else
        gR h3 a0 8 10 (fun a_5 =>
          gR h3 a0 8 3 (fun a_6 =>
            gR h3 a_6 5 4 (fun a_7 =>
              rdR h3 a_7 x1 (fun a_8 =>
                isO h3 a_5 3 (bV (qLn_copyFrom a_5 a_8 h3) (fun h9 =>
                  gR h9 a0 8 10 (fun a_10 =>
                    gR h9 a_10 3 4 (fun a_11 =>
                      rdI h9 a_11 x2 (fun v12 =>
                        if v12 = x3 then
                        (gR h9 a0 8 10 (fun a_13 =>
                        gR h9 a_13 3 5 (fun a_14 =>
                        rdI h9 a_14 x2 (fun v15 =>
                        if v15 = x4 then
                        (rI (-2 : Int32) h9)
                        else
                        qD_tryMove_67 a0 x2 x3 x4 h9))))
                        else
                        qD_tryMove_67 a0 x2 x3 x4 h9)))))))))))))
-- LineDiagram$History.push(LLineDiagram$Plan;)V
def qH_push (a0 : Nat) (a1 : Nat) (h : XH) : XR :=
  gR h a0 1 2 (fun a_1 =>
  gI h a0 1 1 (fun v2 =>
    rdR h a_1 v2 (fun a_3 =>
      isO h a_3 5 (bV (qP_copyFrom a_3 a1 h) (fun h4 =>
        gI h4 a0 1 1 (fun v5 =>
          pV h4 a0 1 1 (.int (jrem (v5 + (1 : Int32)) (8 : Int32))) (fun h6 =>
            gI h6 a0 1 0 (fun v7 =>
              pV h6 a0 1 0 (.int (jmin (v7 + (1 : Int32)) (8 : Int32))) (fun h8 =>
                rV h8)))))))))
-- LineDiagram.columnOf(I)I
def qD_columnOf (x0 : Int32) (h : XH) : XR :=
  rI (jrem x0 (40 : Int32)) h
-- LineDiagram.rowOf(I)I
def qD_rowOf (x0 : Int32) (h : XH) : XR :=
  rI (x0 / (40 : Int32)) h
