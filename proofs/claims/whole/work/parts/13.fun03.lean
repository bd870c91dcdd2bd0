-- LineDiagram$Plan.copyFrom(LLineDiagram$Plan;)V
def qP_copyFrom_63 (a0 : Nat) (a1 : Nat) (h : XH) : XR :=
  gR h a0 5 5 (fun a_1 =>
  gR h a1 5 5 (fun a_2 =>
    isO h a_1 2 (bV (qLb_copyFrom a_1 a_2 h) (fun h3 =>
      rV h3))))
def qP_copyFrom_34_b (k34 : Nat → Nat → Int32 → XH → XR) (a0 : Nat) (a1 : Nat) (x2 : Int32) (h : XH) : XR :=
  gI h a0 5 3 (fun v1 =>
  if x2 < v1 then
    (gR h a0 5 4 (fun a_2 =>
      rdR h a_2 x2 (fun a_3 =>
        gR h a1 5 4 (fun a_4 =>
          rdR h a_4 x2 (fun a_5 =>
            isO h a_3 3 (bV (qLn_copyFrom a_3 a_5 h) (fun h6 =>
              k34 a0 a1 (x2 + (1 : Int32)) h6)))))))
    else
    qP_copyFrom_63 a0 a1 h)
def qP_copyFrom_34 : Nat → Nat → Nat → Int32 → XH → XR
  | 0 => fun _ _ _ _ => none
  | n + 1 => qP_copyFrom_34_b (qP_copyFrom_34 n)
def qP_copyFrom (a0 : Nat) (a1 : Nat) (h : XH) : XR :=
  gI h a1 5 0 (fun v1 =>
  pV h a0 5 0 (.int v1) (fun h2 =>
    gI h2 a1 5 1 (fun v3 =>
      pV h2 a0 5 1 (.int v3) (fun h4 =>
        gI h4 a1 5 2 (fun v5 =>
          pV h4 a0 5 2 (.int v5) (fun h6 =>
            gI h6 a1 5 3 (fun v7 =>
              pV h6 a0 5 3 (.int v7) (fun h8 =>
                qP_copyFrom_34 LF a0 a1 (0 : Int32) h8))))))))
-- java/util/Arrays.fill([II)V
def qJA_fill_5_b (k5 : Nat → Int32 → Int32 → Int32 → XH → XR) (a0 : Nat) (x1 : Int32) (x2 : Int32) (x3 : Int32) (h : XH) : XR :=
  if x2 < x3 then
  (wrI h a0 x2 x1 (fun h1 =>
    k5 a0 x1 (x2 + (1 : Int32)) x3 h1))
  else
  rV h
def qJA_fill_5 : Nat → Nat → Int32 → Int32 → Int32 → XH → XR
  | 0 => fun _ _ _ _ _ => none
  | n + 1 => qJA_fill_5_b (qJA_fill_5 n)
def qJA_fill (a0 : Nat) (x1 : Int32) (h : XH) : XR :=
  lnA h a0 (fun v1 =>
  qJA_fill_5 LF a0 x1 (0 : Int32) v1 h)
-- LineDiagram$Board.begin(II)V
def qB_begin (a0 : Nat) (x1 : Int32) (x2 : Int32) (h : XH) : XR :=
  pV h a0 0 0 (.int x1) (fun h1 =>
  pV h1 a0 0 1 (.int x2) (fun h2 =>
    gR h2 a0 0 2 (fun a_3 =>
      bV (qJA_fill a_3 (0 : Int32) h2) (fun h4 =>
        gR h4 a0 0 3 (fun a_5 =>
          bV (qJA_fill a_5 (0 : Int32) h4) (fun h6 =>
            gR h6 a0 0 4 (fun a_7 =>
              bV (qJA_fill a_7 (0 : Int32) h6) (fun h8 =>
                gR h8 a0 0 5 (fun a_9 =>
                  bV (qJA_fill a_9 (0 : Int32) h8) (fun h10 =>
                    gR h10 a0 0 6 (fun a_11 =>
                      bV (qJA_fill a_11 (0 : Int32) h10) (fun h12 =>
                        gR h12 a0 0 7 (fun a_13 =>
                        bV (qJA_fill a_13 (0 : Int32) h12) (fun h14 =>
                        rV h14))))))))))))))
-- LineDiagram.cellAt(II)I
def qD_cellAt (x0 : Int32) (x1 : Int32) (h : XH) : XR :=
  rI ((x1 * (40 : Int32)) + x0) h
-- LineDiagram$Line.longOf(I)I
def qLn_longOf (a0 : Nat) (x1 : Int32) (h : XH) : XR :=
  gI h a0 3 3 (fun v1 =>
  rI (v1 + (jrem x1 (3 : Int32))) h)
-- LineDiagram$Board.drawStation(LLineDiagram$Line;III)V
def qB_drawStation (a0 : Nat) (a1 : Nat) (x2 : Int32) (x3 : Int32) (x4 : Int32) (h : XH) : XR :=
  gR h a0 0 8 (fun a_1 =>
  wrI h a_1 ((x2 * (20 : Int32)) + x3) x4 (fun h2 =>
    gR h2 a0 0 4 (fun a_3 =>
      rdI h2 a_3 x4 (fun v4 =>
        wrI h2 a_3 x4 (v4 + (1 : Int32)) (fun h5 =>
          gR h5 a0 0 5 (fun a_6 =>
            rdI h5 a_6 x4 (fun v7 =>
              wrI h5 a_6 x4 (v7 ||| (jshl (1 : Int32) x2)) (fun h8 =>
                gR h8 a0 0 6 (fun a_9 =>
                  gR h8 a0 0 6 (fun a_10 =>
                    rdI h8 a_10 x4 (fun v11 =>
                      isO h8 a1 3 (bI (qLn_longOf a1 x3 h8) (fun v13 h12 =>
                        wrI h12 a_9 x4 (jmax v11 v13) (fun h14 =>
                        rV h14))))))))))))))
-- LineDiagram$Board.drawStep(III)I
def qB_drawStep_55 (a0 : Nat) (x2 : Int32) (x3 : Int32) (x4 : Int32) (s0 : Int32) (h : XH) : XR :=
  gR h a0 0 3 (fun a_1 =>
  rdI h a_1 s0 (fun v2 =>
    wrI h a_1 s0 (v2 ||| (jshl (1 : Int32) (((8 : Int32) * (jrem x2 (4 : Int32))) + x3))) (fun h3 =>
      gR h3 a0 0 2 (fun a_4 =>
        rdI h3 a_4 x4 (fun v5 =>
          wrI h3 a_4 x4 (v5 ||| (jshl (1 : Int32) x3)) (fun h6 =>
            rI x4 h6))))))
def qB_drawStep (a0 : Nat) (x1 : Int32) (x2 : Int32) (x3 : Int32) (h : XH) : XR :=
  if x2 < (0 : Int32) then
  (rI x1 h)
  else
  if x2 < (8 : Int32) then
    (gS h 0 (fun a_1 =>
      rdI h a_1 x2 (fun v2 =>
        gS h 1 (fun a_3 =>
          rdI h a_3 x2 (fun v4 =>
            bI (qD_cellAt v2 v4 h) (fun v6 h5 =>
              if (x1 + v6) < (0 : Int32) then
                (rI x1 h5)
                else
                if (x1 + v6) < (1600 : Int32) then
                  (if x2 < (4 : Int32) then
                    (qB_drawStep_55 a0 x2 x3 (x1 + v6) x1 h5)
                    else
                    qB_drawStep_55 a0 x2 x3 (x1 + v6) (x1 + v6) h5)
                  else
                  rI x1 h5))))))
    else
    rI x1 h
-- LineDiagram$Line.stepOfStation(II)I
def qLn_stepOfStation (a0 : Nat) (x1 : Int32) (x2 : Int32) (h : XH) : XR :=
  gI h a0 3 2 (fun v1 =>
  if (v1 - (1 : Int32)) < (1 : Int32) then
    (rI (0 : Int32) h)
    else
    if (v1 - (1 : Int32)) = 0 then none else
      rI ((x1 * x2) / (v1 - (1 : Int32))) h)
-- LineDiagram$Board.drawLine(LLineDiagram$Line;II)V
def qB_drawLine_75_b (k48 : Nat → Nat → Int32 → Int32 → Int32 → Int32 → Int32 → Int32 → XH → XR) (k75 : Nat → Nat → Int32 → Int32 → Int32 → Int32 → Int32 → Int32 → Int32 → Int32 → XH → XR) (a0 : Nat) (a1 : Nat) (x2 : Int32) (x3 : Int32) (x4 : Int32) (x5 : Int32) (x6 : Int32) (x7 : Int32) (x8 : Int32) (x9 : Int32) (h : XH) : XR :=
  if (0 : Int32) < x9 then
  (isO h a0 0 (bI (qB_drawStep a0 x4 x8 x2 h) (fun v2 h1 =>
    gI h1 a1 3 2 (fun v3 =>
      if x6 < v3 then
        (isO h1 a1 3 (bI (qLn_stepOfStation a1 x6 x3 h1) (fun v5 h4 =>
          if v5 = (x5 + (1 : Int32)) then
            (isO h4 a0 0 (bV (qB_drawStation a0 a1 x2 x6 v2 h4) (fun h6 =>
              k75 a0 a1 x2 x3 v2 (x5 + (1 : Int32)) (x6 + (1 : Int32)) x7 x8 (x9 + (-1 : Int32)) h6)))
            else
            k75 a0 a1 x2 x3 v2 (x5 + (1 : Int32)) x6 x7 x8 (x9 + (-1 : Int32)) h4)))
        else
        k75 a0 a1 x2 x3 v2 (x5 + (1 : Int32)) x6 x7 x8 (x9 + (-1 : Int32)) h1))))
  else
  k48 a0 a1 x2 x3 x4 x5 x6 (x7 + (1 : Int32)) h
def qB_drawLine_75 (k48 : Nat → Nat → Int32 → Int32 → Int32 → Int32 → Int32 → Int32 → XH → XR) : Nat → Nat → Nat → Int32 → Int32 → Int32 → Int32 → Int32 → Int32 → Int32 → Int32 → XH → XR
  | 0 => fun _ _ _ _ _ _ _ _ _ _ _ => none
  | n + 1 => qB_drawLine_75_b k48 (qB_drawLine_75 k48 n)
def qB_drawLine_48_b (k48 : Nat → Nat → Int32 → Int32 → Int32 → Int32 → Int32 → Int32 → XH → XR) (a0 : Nat) (a1 : Nat) (x2 : Int32) (x3 : Int32) (x4 : Int32) (x5 : Int32) (x6 : Int32) (x7 : Int32) (h : XH) : XR :=
  gI h a1 3 1 (fun v1 =>
  if x7 < (v1 - (1 : Int32)) then
    (isO h a1 3 (bI (qLn_wayOfRun a1 x7 h) (fun v3 h2 =>
      isO h2 a1 3 (bI (qLn_stepsOfRun a1 x7 h2) (fun v5 h4 =>
        qB_drawLine_75 k48 LF a0 a1 x2 x3 x4 x5 x6 x7 v3 v5 h4)))))
    else
    rV h)
def qB_drawLine_48 : Nat → Nat → Nat → Int32 → Int32 → Int32 → Int32 → Int32 → Int32 → XH → XR
  | 0 => fun _ _ _ _ _ _ _ _ _ => none
  | n + 1 => qB_drawLine_48_b (qB_drawLine_48 n)
def qB_drawLine (a0 : Nat) (a1 : Nat) (x2 : Int32) (x3 : Int32) (h : XH) : XR :=
  gR h a1 3 4 (fun a_1 =>
  rdI h a_1 (0 : Int32) (fun v2 =>
    gR h a1 3 5 (fun a_3 =>
      rdI h a_3 (0 : Int32) (fun v4 =>
        bI (qD_cellAt v2 v4 h) (fun v6 h5 =>
          gR h5 a0 0 2 (fun a_7 =>
            rdI h5 a_7 v6 (fun v8 =>
              wrI h5 a_7 v6 (v8 ||| (jshl (1 : Int32) x2)) (fun h9 =>
                isO h9 a0 0 (bV (qB_drawStation a0 a1 x2 (0 : Int32) v6 h9) (fun h10 =>
                  qB_drawLine_48 LF a0 a1 x2 x3 v6 (0 : Int32) (1 : Int32) (0 : Int32) h10))))))))))
-- LineDiagram$Board.drawLines(LLineDiagram$Plan;)V
def qB_drawLines_14_b (k14 : Nat → Nat → Int32 → XH → XR) (a0 : Nat) (a1 : Nat) (x2 : Int32) (h : XH) : XR :=
  gI h a1 5 3 (fun v1 =>
  if x2 < v1 then
    (gR h a1 5 4 (fun a_2 =>
      rdR h a_2 x2 (fun a_3 =>
        gR h a1 5 4 (fun a_4 =>
          rdR h a_4 x2 (fun a_5 =>
            isO h a_5 3 (bI (qLn_steps a_5 h) (fun v7 h6 =>
              isO h6 a0 0 (bV (qB_drawLine a0 a_3 x2 v7 h6) (fun h8 =>
                k14 a0 a1 (x2 + (1 : Int32)) h8)))))))))
    else
    rV h)
def qB_drawLines_14 : Nat → Nat → Nat → Int32 → XH → XR
  | 0 => fun _ _ _ _ => none
  | n + 1 => qB_drawLines_14_b (qB_drawLines_14 n)
def qB_drawLines (a0 : Nat) (a1 : Nat) (h : XH) : XR :=
  gI h a1 5 0 (fun v1 =>
  gI h a1 5 1 (fun v2 =>
    isO h a0 0 (bV (qB_begin a0 v1 v2 h) (fun h3 =>
      qB_drawLines_14 LF a0 a1 (0 : Int32) h3))))
-- LineDiagram$History.forget()V
def qH_forget (a0 : Nat) (h : XH) : XR :=
  pV h a0 1 0 (.int (0 : Int32)) (fun h1 =>
  rV h1)
-- LineDiagram.load()I
def qD_load_85 (a0 : Nat) (h : XH) : XR :=
  gR h a0 8 3 (fun a_1 =>
  gI h a_1 5 3 (fun v2 =>
    rI v2 h))
def qD_load_67_b (k67 : Nat → Int32 → XH → XR) (a0 : Nat) (x1 : Int32) (h : XH) : XR :=
  if x1 < (2 : Int32) then
  (gR h a0 8 6 (fun a_1 =>
    wrB h a_1 x1 (0 : Int32) (fun h2 =>
      k67 a0 (x1 + (1 : Int32)) h2)))
  else
  qD_load_85 a0 h
def qD_load_67 : Nat → Nat → Int32 → XH → XR
  | 0 => fun _ _ _ => none
  | n + 1 => qD_load_67_b (qD_load_67 n)
def qD_load (a0 : Nat) (h : XH) : XR :=
  gR h a0 8 2 (fun a_1 =>
  gR h a0 8 0 (fun a_2 =>
    gR h a0 8 4 (fun a_3 =>
      isO h a_1 4 (bI (qPs_parse a_1 a_2 a_3 h) (fun v5 h4 =>
        pV h4 a0 8 11 (.int v5) (fun h6 =>
          gR h6 a0 8 0 (fun a_7 =>
            pV h6 a_7 6 0 (.int (0 : Int32)) (fun h8 =>
              gI h8 a0 8 11 (fun v9 =>
                if v9 < (0 : Int32) then
                  (gR h8 a0 8 3 (fun a_10 =>
                    gR h8 a0 8 4 (fun a_11 =>
                      isO h8 a_10 5 (bV (qP_copyFrom a_10 a_11 h8) (fun h12 =>
                        gR h12 a0 8 8 (fun a_13 =>
                        gR h12 a0 8 3 (fun a_14 =>
                        isO h12 a_13 0 (bV (qB_drawLines a_13 a_14 h12) (fun h15 =>
                        gR h15 a0 8 7 (fun a_16 =>
                        isO h15 a_16 1 (bV (qH_forget a_16 h15) (fun h17 =>
                        qD_load_67 LF a0 (0 : Int32) h17))))))))))))
                  else
                  rI (-1 : Int32) h8)))))))))
