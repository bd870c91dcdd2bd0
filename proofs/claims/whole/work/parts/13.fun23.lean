-- LineDiagram.ifMoved(IIIII)I
def qD_ifMoved_103 (a0 : Nat) (x7 : Int32) (h : XH) : XR :=
  gR h a0 8 4 (fun a_1 =>
  isO h a0 8 (bV (qD_show a0 a_1 h) (fun h2 =>
    rI x7 h2)))
def qD_ifMoved (a0 : Nat) (x1 : Int32) (x2 : Int32) (x3 : Int32) (x4 : Int32) (x5 : Int32) (h : XH) : XR :=
  if x5 < (0 : Int32) then
  (rI (-1 : Int32) h)
  else
  if (3 : Int32) < x5 then
    (rI (-1 : Int32) h)
    else
    isO h a0 8 (bI (qD_tryMove a0 x1 x2 x3 x4 h) (fun v2 h1 =>
      if v2 < (0 : Int32) then
        (rI v2 h1)
        else
        if x5 = (3 : Int32) then
          (gR h1 a0 8 10 (fun a_14 =>
            isO h1 a_14 3 (bI (qLn_steps a_14 h1) (fun v16 h15 =>
              rI v16 h15))))
          else
          gR h1 a0 8 4 (fun a_3 =>
            gR h1 a0 8 3 (fun a_4 =>
              isO h1 a_3 5 (bV (qP_copyFrom a_3 a_4 h1) (fun h5 =>
                isO h5 a0 8 (bI (qD_putTrial a0 x1 h5) (fun v7 h6 =>
                  if x5 = (1 : Int32) then
                    (gR h6 a0 8 8 (fun a_11 =>
                      isO h6 a_11 0 (bI (qB_countCrossings a_11 (255 : Int32) h6) (fun v13 h12 =>
                        qD_ifMoved_103 a0 v13 h12))))
                    else
                    if x5 = (2 : Int32) then
                      (gR h6 a0 8 8 (fun a_8 =>
                        isO h6 a_8 0 (bI (qB_countBetween a_8 (255 : Int32) h6) (fun v10 h9 =>
                        qD_ifMoved_103 a0 v10 h9))))
                      else
                      qD_ifMoved_103 a0 v7 h6))))))))
-- LineDiagramModel.moves(IIII)I
def qM_moves (a0 : Nat) (x1 : Int32) (x2 : Int32) (x3 : Int32) (x4 : Int32) (h : XH) : XR :=
  isO h a0 9 (bI (qM_moveFault a0 x1 x2 x3 x4 h) (fun v2 h1 =>
  if v2 < (0 : Int32) then
    (rI v2 h1)
    else
    isO h1 a0 9 (bV (qM_putsPoint a0 x1 x2 x3 x4 h1) (fun h3 =>
      isO h3 a0 9 (bI (qM_faultOf a0 x1 h3) (fun v5 h4 =>
        if v5 < (0 : Int32) then
          (rI v5 h4)
          else
          isO h4 a0 9 (bI (qM_refits a0 h4) (fun v7 h6 =>
            rI v7 h6))))))))
-- LineDiagramModel.ifMoved(IIIII)I
def qM_ifMoved_74 (a0 : Nat) (x6 : Int32) (h : XH) : XR :=
  isO h a0 9 (bV (qM_comesBack a0 h) (fun h1 =>
  rI x6 h1))
def qM_ifMoved_72 (a0 : Nat) (s0 : Int32) (h : XH) : XR :=
  qM_ifMoved_74 a0 s0 h
def qM_ifMoved (a0 : Nat) (x1 : Int32) (x2 : Int32) (x3 : Int32) (x4 : Int32) (x5 : Int32) (h : XH) : XR :=
  bI (qM_in (x5.toInt64) (0 : Int64) (3 : Int64) h) (fun v2 h1 =>
  if v2 = (0 : Int32) then
    (rI (-1 : Int32) h1)
    else
    isO h1 a0 9 (bV (qM_thinks a0 h1) (fun h3 =>
      isO h3 a0 9 (bI (qM_moves a0 x1 x2 x3 x4 h3) (fun v5 h4 =>
        if v5 < (0 : Int32) then
          (qM_ifMoved_74 a0 v5 h4)
          else
          if (0 : Int32) < x5 then
            (if x5 = (1 : Int32) then
              (isO h4 a0 9 (bI (qM_allCrossings a0 h4) (fun v11 h10 =>
                qM_ifMoved_72 a0 v11 h10)))
              else
              if x5 = (2 : Int32) then
                (isO h4 a0 9 (bI (qM_allOf a0 (1 : Int32) h4) (fun v9 h8 =>
                  qM_ifMoved_72 a0 v9 h8)))
                else
                isO h4 a0 9 (bI (qM_lengthOf a0 x1 h4) (fun v7 h6 =>
                  qM_ifMoved_72 a0 v7 h6)))
            else
            qM_ifMoved_74 a0 v5 h4)))))
-- LineDiagram.bestMove(II)I
def qD_bestMove_145 (k63 : Nat → Int32 → Int32 → Int32 → Int32 → Int32 → Int32 → Int32 → XH → XR) (a0 : Nat) (x1 : Int32) (x2 : Int32) (x3 : Int32) (x4 : Int32) (x7 : Int32) (x8 : Int32) (h : XH) : XR :=
  k63 a0 x1 x2 x3 x4 x7 x8 (x7 + (1 : Int32)) h
def qD_bestMove_63_b (k63 : Nat → Int32 → Int32 → Int32 → Int32 → Int32 → Int32 → Int32 → XH → XR) (a0 : Nat) (x1 : Int32) (x2 : Int32) (x3 : Int32) (x4 : Int32) (x5 : Int32) (x6 : Int32) (x7 : Int32) (h : XH) : XR :=
  if x7 < (8 : Int32) then
  (gS h 0 (fun a_1 =>
    rdI h a_1 x7 (fun v2 =>
      gS h 1 (fun a_3 =>
        rdI h a_3 x7 (fun v4 =>
          isO h a0 8 (bI (qD_tryMove a0 x1 x2 (x3 + v2) (x4 + v4) h) (fun v6 h5 =>
            if v6 = (0 : Int32) then
              (isO h5 a0 8 (bI (qD_putTrial a0 x1 h5) (fun v8 h7 =>
                gR h7 a0 8 8 (fun a_9 =>
                  isO h7 a_9 0 (bI (qB_countCrossings a_9 (255 : Int32) h7) (fun v11 h10 =>
                    gR h10 a0 8 8 (fun a_12 =>
                      isO h10 a_12 0 (bI (qB_countBetween a_12 (255 : Int32) h10) (fun v14 h13 =>
                        gR h13 a0 8 4 (fun a_15 =>
                        isO h13 a0 8 (bV (qD_show a0 a_15 h13) (fun h16 =>
                        if x5 < (0 : Int32) then
                        (qD_bestMove_145 k63 a0 x1 x2 x3 x4 x7 ((v8 + v11) + v14) h16)
                        else
                        if ((v8 + v11) + v14) < x6 then
                        (qD_bestMove_145 k63 a0 x1 x2 x3 x4 x7 ((v8 + v11) + v14) h16)
                        else
                        k63 a0 x1 x2 x3 x4 x5 x6 (x7 + (1 : Int32)) h16))))))))))))
              else
              k63 a0 x1 x2 x3 x4 x5 x6 (x7 + (1 : Int32)) h5)))))))
  else
  rI x5 h
def qD_bestMove_63 : Nat → Nat → Int32 → Int32 → Int32 → Int32 → Int32 → Int32 → Int32 → XH → XR
  | 0 => fun _ _ _ _ _ _ _ _ _ => none
  | n + 1 => qD_bestMove_63_b (qD_bestMove_63 n)
def qD_bestMove (a0 : Nat) (x1 : Int32) (x2 : Int32) (h : XH) : XR :=
  isO h a0 8 (bI (qD_isPoint a0 x1 x2 h) (fun v2 h1 =>
  if v2 = (0 : Int32) then
    (rI (-1 : Int32) h1)
    else
    gR h1 a0 8 3 (fun a_3 =>
      gR h1 a_3 5 4 (fun a_4 =>
        rdR h1 a_4 x1 (fun a_5 =>
          gR h1 a_5 3 4 (fun a_6 =>
            rdI h1 a_6 x2 (fun v7 =>
              gR h1 a0 8 3 (fun a_8 =>
                gR h1 a_8 5 4 (fun a_9 =>
                  rdR h1 a_9 x1 (fun a_10 =>
                    gR h1 a_10 3 5 (fun a_11 =>
                      rdI h1 a_11 x2 (fun v12 =>
                        gR h1 a0 8 4 (fun a_13 =>
                        gR h1 a0 8 3 (fun a_14 =>
                        isO h1 a_13 5 (bV (qP_copyFrom a_13 a_14 h1) (fun h15 =>
                        qD_bestMove_63 LF a0 x1 x2 v7 v12 (-2 : Int32) (0 : Int32) (0 : Int32) h15))))))))))))))))
-- LineDiagramModel.bestMove(II)I
def qM_bestMove_118 (k26 : Nat → Int32 → Int32 → Int32 → Int32 → Int32 → XH → XR) (a0 : Nat) (x1 : Int32) (x2 : Int32) (x3 : Int32) (x4 : Int32) (x5 : Int32) (h : XH) : XR :=
  isO h a0 9 (bV (qM_comesBack a0 h) (fun h1 =>
  k26 a0 x1 x2 x3 x4 (x5 + (1 : Int32)) h1))
def qM_bestMove_88 (k26 : Nat → Int32 → Int32 → Int32 → Int32 → Int32 → XH → XR) (a0 : Nat) (x1 : Int32) (x2 : Int32) (x3 : Int32) (x4 : Int32) (x5 : Int32) (s0 : Int32) (s1 : Int32) (h : XH) : XR :=
  if (s1 + s0) < x4 then
  (if (s1 + s0) < (0 : Int32) then
    (qM_bestMove_118 k26 a0 x1 x2 x3 x4 x5 h)
    else
    if (s1 + s0) < (999991 : Int32) then
      (qM_bestMove_118 k26 a0 x1 x2 x5 (s1 + s0) x5 h)
      else
      qM_bestMove_118 k26 a0 x1 x2 x3 x4 x5 h)
  else
  qM_bestMove_118 k26 a0 x1 x2 x3 x4 x5 h
def qM_bestMove_26_b (k26 : Nat → Int32 → Int32 → Int32 → Int32 → Int32 → XH → XR) (a0 : Nat) (x1 : Int32) (x2 : Int32) (x3 : Int32) (x4 : Int32) (x5 : Int32) (h : XH) : XR :=
  if x5 < (8 : Int32) then
  (isO h a0 9 (bI (qM_px a0 x1 x2 h) (fun v2 h1 =>
    bI (qM_dx x5 h1) (fun v4 h3 =>
      isO h3 a0 9 (bI (qM_py a0 x1 x2 h3) (fun v6 h5 =>
        bI (qM_dy x5 h5) (fun v8 h7 =>
          isO h7 a0 9 (bI (qM_moves a0 x1 x2 (v2 + v4) (v6 + v8) h7) (fun v10 h9 =>
            if v10 < (0 : Int32) then
              (qM_bestMove_88 k26 a0 x1 x2 x3 x4 x5 (1000000 : Int32) v10 h9)
              else
              isO h9 a0 9 (bI (qM_allCrossings a0 h9) (fun v12 h11 =>
                isO h11 a0 9 (bI (qM_allOf a0 (1 : Int32) h11) (fun v14 h13 =>
                  qM_bestMove_88 k26 a0 x1 x2 x3 x4 x5 (v12 + v14) v10 h13)))))))))))))
  else
  rI x3 h
def qM_bestMove_26 : Nat → Nat → Int32 → Int32 → Int32 → Int32 → Int32 → XH → XR
  | 0 => fun _ _ _ _ _ _ _ => none
  | n + 1 => qM_bestMove_26_b (qM_bestMove_26 n)
def qM_bestMove (a0 : Nat) (x1 : Int32) (x2 : Int32) (h : XH) : XR :=
  isO h a0 9 (bI (qM_isPoint a0 x1 x2 h) (fun v2 h1 =>
  if v2 = (0 : Int32) then
    (rI (-1 : Int32) h1)
    else
    isO h1 a0 9 (bV (qM_thinks a0 h1) (fun h3 =>
      qM_bestMove_26 LF a0 x1 x2 (-2 : Int32) (1000000 : Int32) (0 : Int32) h3))))
-- LineDiagram.couldLabel()I
def qD_couldLabel (a0 : Nat) (h : XH) : XR :=
  gR h a0 8 4 (fun a_1 =>
  gR h a0 8 3 (fun a_2 =>
    isO h a_1 5 (bV (qP_copyFrom a_1 a_2 h) (fun h3 =>
      isO h3 a0 8 (bI (qD_labelPlaces a0 h3) (fun v5 h4 =>
        gR h4 a0 8 4 (fun a_6 =>
          isO h4 a0 8 (bV (qD_show a0 a_6 h4) (fun h7 =>
            rI v5 h7)))))))))
-- LineDiagramModel.couldLabel()I
def qM_couldLabel (a0 : Nat) (h : XH) : XR :=
  isO h a0 9 (bV (qM_thinks a0 h) (fun h1 =>
  isO h1 a0 9 (bV (qM_lays a0 h1) (fun h2 =>
    isO h2 a0 9 (bI (qM_labels a0 h2) (fun v4 h3 =>
      isO h3 a0 9 (bV (qM_comesBack a0 h3) (fun h5 =>
        rI v4 h5))))))))
-- LineDiagram.meanGap(I)F
def qD_meanGap (a0 : Nat) (x1 : Int32) (h : XH) : XR :=
  isO h a0 8 (bI (qD_isLine a0 x1 h) (fun v2 h1 =>
  if v2 = (0 : Int32) then
    (rF (3212836864 : UInt32) h1)
    else
    gR h1 a0 8 3 (fun a_3 =>
      gR h1 a_3 5 4 (fun a_4 =>
        rdR h1 a_4 x1 (fun a_5 =>
          gI h1 a_5 3 2 (fun v6 =>
            if (v6 - (1 : Int32)) < (1 : Int32) then
              (rF (3212836864 : UInt32) h1)
              else
              gR h1 a0 8 3 (fun a_7 =>
                gR h1 a_7 5 4 (fun a_8 =>
                  rdR h1 a_8 x1 (fun a_9 =>
                    isO h1 a_9 3 (bI (qLn_steps a_9 h1) (fun v11 h10 =>
                      fdv ((FP.i2f v11)) ((FP.i2f (v6 - (1 : Int32)))) (fun w12 =>
                        rF w12 h10))))))))))))
-- LineDiagramModel.meanGap(I)F
def qM_meanGap (a0 : Nat) (x1 : Int32) (h : XH) : XR :=
  isO h a0 9 (bI (qM_isLine a0 x1 h) (fun v2 h1 =>
  if v2 = (0 : Int32) then
    (rF (3212836864 : UInt32) h1)
    else
    isO h1 a0 9 (bI (qM_lengthOf a0 x1 h1) (fun v4 h3 =>
      isO h3 a0 9 (bI (qM_of a0 x1 (1 : Int32) h3) (fun v6 h5 =>
        fdv ((FP.i2f v4)) ((FP.i2f (v6 - (1 : Int32)))) (fun w7 =>
          rF w7 h5)))))))
-- LineDiagram.labelled()D
def qD_labelled (a0 : Nat) (h : XH) : XR :=
  gR h a0 8 8 (fun a_1 =>
  isO h a_1 0 (bI (qB_countPlaces a_1 h) (fun v3 h2 =>
    if v3 = (0 : Int32) then
      (rD FP.dconst0 h2)
      else
      gR h2 a0 8 3 (fun a_4 =>
        gR h2 a_4 5 5 (fun a_5 =>
          gI h2 a_5 2 0 (fun v6 =>
            ddv ((FP.i2d v6)) ((FP.i2d v3)) (fun w7 =>
              rD w7 h2)))))))
-- LineDiagramModel.labelled()D
def qM_labelled (a0 : Nat) (h : XH) : XR :=
  isO h a0 9 (bV (qM_lays a0 h) (fun h1 =>
  isO h1 a0 9 (bI (qM_cellsOf a0 (3 : Int32) h1) (fun v3 h2 =>
    if v3 = (0 : Int32) then
      (rD FP.dconst0 h2)
      else
      isO h2 a0 9 (bI (qM_manyLabels a0 h2) (fun v5 h4 =>
        ddv ((FP.i2d v5)) ((FP.i2d v3)) (fun w6 =>
          rD w6 h4)))))))
-- LineDiagram.letterOf(II)I
def qD_letterOf (x0 : Int32) (x1 : Int32) (h : XH) : XR :=
  bI (qD_shiftOf x1 h) (fun v2 h1 =>
  rI ((jshr x0 v2) &&& (31 : Int32)) h1)
