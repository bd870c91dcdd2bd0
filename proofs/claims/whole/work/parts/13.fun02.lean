-- LineDiagram$Line.insertPoint(III)V
def qLn_insertPoint_72 (a0 : Nat) (x1 : Int32) (x2 : Int32) (x3 : Int32) (h : XH) : XR :=
  gR h a0 3 4 (fun a_1 =>
  wrI h a_1 x1 x2 (fun h2 =>
    gR h2 a0 3 5 (fun a_3 =>
      wrI h2 a_3 x1 x3 (fun h4 =>
        gI h4 a0 3 1 (fun v5 =>
          pV h4 a0 3 1 (.int (v5 + (1 : Int32))) (fun h6 =>
            rV h6))))))
def qLn_insertPoint_28_b (k28 : Nat → Int32 → Int32 → Int32 → Int32 → XH → XR) (a0 : Nat) (x1 : Int32) (x2 : Int32) (x3 : Int32) (x4 : Int32) (h : XH) : XR :=
  if x1 < x4 then
  (gR h a0 3 4 (fun a_1 =>
    gR h a0 3 4 (fun a_2 =>
      rdI h a_2 (x4 - (1 : Int32)) (fun v3 =>
        wrI h a_1 x4 v3 (fun h4 =>
          gR h4 a0 3 5 (fun a_5 =>
            gR h4 a0 3 5 (fun a_6 =>
              rdI h4 a_6 (x4 - (1 : Int32)) (fun v7 =>
                wrI h4 a_5 x4 v7 (fun h8 =>
                  k28 a0 x1 x2 x3 (x4 + (-1 : Int32)) h8)))))))))
  else
  qLn_insertPoint_72 a0 x1 x2 x3 h
def qLn_insertPoint_28 : Nat → Nat → Int32 → Int32 → Int32 → Int32 → XH → XR
  | 0 => fun _ _ _ _ _ _ => none
  | n + 1 => qLn_insertPoint_28_b (qLn_insertPoint_28 n)
def qLn_insertPoint (a0 : Nat) (x1 : Int32) (x2 : Int32) (x3 : Int32) (h : XH) : XR :=
  if x1 < (0 : Int32) then
  (rV h)
  else
  gI h a0 3 1 (fun v1 =>
    if v1 < x1 then
      (rV h)
      else
      gI h a0 3 1 (fun v2 =>
        if v2 < (10 : Int32) then
          (gI h a0 3 1 (fun v3 =>
            qLn_insertPoint_28 LF a0 x1 x2 x3 v3 h))
          else
          rV h))
-- LineDiagram$Line.signOf(I)I
def qLn_signOf (x0 : Int32) (h : XH) : XR :=
  if x0 = (0 : Int32) then
  (rI (0 : Int32) h)
  else
  if x0 < (0 : Int32) then
    (rI (-1 : Int32) h)
    else
    rI (1 : Int32) h
-- LineDiagram$Line.wayOfRun(I)I
def qLn_wayOfRun_69 (x2 : Int32) (x3 : Int32) (h : XH) : XR :=
  gS h 2 (fun a_1 =>
  bI (qLn_signOf x3 h) (fun v3 h2 =>
    bI (qLn_signOf x2 h2) (fun v5 h4 =>
      rdI h4 a_1 ((((3 : Int32) * (v3 + (1 : Int32))) + v5) + (1 : Int32)) (fun v6 =>
        rI v6 h4))))
def qLn_wayOfRun (a0 : Nat) (x1 : Int32) (h : XH) : XR :=
  if x1 < (0 : Int32) then
  (rI (-1 : Int32) h)
  else
  gI h a0 3 1 (fun v1 =>
    if x1 < (v1 - (1 : Int32)) then
      (gR h a0 3 4 (fun a_2 =>
        rdI h a_2 (x1 + (1 : Int32)) (fun v3 =>
          gR h a0 3 4 (fun a_4 =>
            rdI h a_4 x1 (fun v5 =>
              gR h a0 3 5 (fun a_6 =>
                rdI h a_6 (x1 + (1 : Int32)) (fun v7 =>
                  gR h a0 3 5 (fun a_8 =>
                    rdI h a_8 x1 (fun v9 =>
                      if (v3 - v5) = (0 : Int32) then
                        (qLn_wayOfRun_69 (v3 - v5) (v7 - v9) h)
                        else
                        if (v7 - v9) = (0 : Int32) then
                        (qLn_wayOfRun_69 (v3 - v5) (v7 - v9) h)
                        else
                        if (jabs (v3 - v5)) = (jabs (v7 - v9)) then
                        (qLn_wayOfRun_69 (v3 - v5) (v7 - v9) h)
                        else
                        rI (-1 : Int32) h)))))))))
      else
      rI (-1 : Int32) h)
-- LineDiagram$Line.turnAt(I)I
def qLn_turnAt (a0 : Nat) (x1 : Int32) (h : XH) : XR :=
  if x1 < (1 : Int32) then
  (rI (0 : Int32) h)
  else
  gI h a0 3 1 (fun v1 =>
    if x1 < (v1 - (1 : Int32)) then
      (isO h a0 3 (bI (qLn_wayOfRun a0 (x1 - (1 : Int32)) h) (fun v3 h2 =>
        isO h2 a0 3 (bI (qLn_wayOfRun a0 x1 h2) (fun v5 h4 =>
          rI (jmin (jabs (v3 - v5)) ((8 : Int32) - (jabs (v3 - v5)))) h4)))))
      else
      rI (0 : Int32) h)
-- LineDiagram$Line.isCrooked(I)Z
def qLn_isCrooked_2_b (k2 : Nat → Int32 → Int32 → XH → XR) (a0 : Nat) (x1 : Int32) (x2 : Int32) (h : XH) : XR :=
  gI h a0 3 1 (fun v1 =>
  if x2 < (v1 - (1 : Int32)) then
    (isO h a0 3 (bI (qLn_wayOfRun a0 x2 h) (fun v3 h2 =>
      if v3 < (0 : Int32) then
        (rI (1 : Int32) h2)
        else
        isO h2 a0 3 (bI (qLn_turnAt a0 x2 h2) (fun v5 h4 =>
          if x1 < v5 then
            (rI (1 : Int32) h4)
            else
            k2 a0 x1 (x2 + (1 : Int32)) h4)))))
    else
    rI (0 : Int32) h)
def qLn_isCrooked_2 : Nat → Nat → Int32 → Int32 → XH → XR
  | 0 => fun _ _ _ _ => none
  | n + 1 => qLn_isCrooked_2_b (qLn_isCrooked_2 n)
def qLn_isCrooked (a0 : Nat) (x1 : Int32) (h : XH) : XR :=
  qLn_isCrooked_2 LF a0 x1 (0 : Int32) h
-- LineDiagram$Line.stepsOfRun(I)I
def qLn_stepsOfRun (a0 : Nat) (x1 : Int32) (h : XH) : XR :=
  if x1 < (0 : Int32) then
  (rI (0 : Int32) h)
  else
  gI h a0 3 1 (fun v1 =>
    if x1 < (v1 - (1 : Int32)) then
      (gR h a0 3 4 (fun a_2 =>
        rdI h a_2 (x1 + (1 : Int32)) (fun v3 =>
          gR h a0 3 4 (fun a_4 =>
            rdI h a_4 x1 (fun v5 =>
              gR h a0 3 5 (fun a_6 =>
                rdI h a_6 (x1 + (1 : Int32)) (fun v7 =>
                  gR h a0 3 5 (fun a_8 =>
                    rdI h a_8 x1 (fun v9 =>
                      rI (jmax (jabs (v3 - v5)) (jabs (v7 - v9))) h)))))))))
      else
      rI (0 : Int32) h)
-- LineDiagram$Line.steps()I
def qLn_steps_4_b (k4 : Nat → Int32 → Int32 → XH → XR) (a0 : Nat) (x1 : Int32) (x2 : Int32) (h : XH) : XR :=
  gI h a0 3 1 (fun v1 =>
  if x2 < (v1 - (1 : Int32)) then
    (isO h a0 3 (bI (qLn_stepsOfRun a0 x2 h) (fun v3 h2 =>
      k4 a0 (x1 + v3) (x2 + (1 : Int32)) h2)))
    else
    rI x1 h)
def qLn_steps_4 : Nat → Nat → Int32 → Int32 → XH → XR
  | 0 => fun _ _ _ _ => none
  | n + 1 => qLn_steps_4_b (qLn_steps_4 n)
def qLn_steps (a0 : Nat) (h : XH) : XR :=
  qLn_steps_4 LF a0 (0 : Int32) (0 : Int32) h
-- LineDiagram$Line.isShort()Z
def qLn_isShort (a0 : Nat) (h : XH) : XR :=
  isO h a0 3 (bI (qLn_steps a0 h) (fun v2 h1 =>
  gI h1 a0 3 2 (fun v3 =>
    if v2 < (v3 - (1 : Int32)) then
      (rI (1 : Int32) h1)
      else
      rI (0 : Int32) h1)))
-- LineDiagram$Parser.readPoints(LLineDiagram$Text;LLineDiagram$Plan;LLineDiagram$Line;)Z
def qPs_readPoints_95 (a0 : Nat) (a1 : Nat) (a3 : Nat) (h : XH) : XR :=
  gI h a3 3 1 (fun v1 =>
  if v1 < (2 : Int32) then
    (rI (0 : Int32) h)
    else
    isO h a3 3 (bI (qLn_isShort a3 h) (fun v3 h2 =>
      if v3 = (0 : Int32) then
        (isO h2 a0 4 (bI (qPs_pass a0 a1 (3 : Int32) h2) (fun v5 h4 =>
          if v5 = (0 : Int32) then
            (rI (0 : Int32) h4)
            else
            rI (1 : Int32) h4)))
        else
        rI (0 : Int32) h2)))
def qPs_readPoints_3_b (k3 : Nat → Nat → Nat → Nat → Int32 → XH → XR) (a0 : Nat) (a1 : Nat) (a2 : Nat) (a3 : Nat) (x4 : Int32) (h : XH) : XR :=
  gI h a0 4 2 (fun v1 =>
  if v1 = (10 : Int32) then
    (if x4 < (10 : Int32) then
      (isO h a0 4 (bV (qPs_scan a0 a1 h) (fun h2 =>
        gI h2 a2 5 0 (fun v3 =>
          isO h2 a0 4 (bI (qPs_readNumber a0 a1 (0 : Int32) (v3 - (1 : Int32)) h2) (fun v5 h4 =>
            if v5 = (0 : Int32) then
              (rI (0 : Int32) h4)
              else
              gI h4 a2 5 1 (fun v6 =>
                isO h4 a0 4 (bI (qPs_isNumber a0 (0 : Int32) (v6 - (1 : Int32)) h4) (fun v8 h7 =>
                  if v8 = (0 : Int32) then
                    (rI (0 : Int32) h7)
                    else
                    gI h7 a3 3 1 (fun v9 =>
                      gI h7 a0 4 4 (fun v10 =>
                        gI h7 a0 4 3 (fun v11 =>
                        isO h7 a3 3 (bV (qLn_insertPoint a3 v9 v10 v11 h7) (fun h12 =>
                        gI h12 a2 5 2 (fun v13 =>
                        isO h12 a3 3 (bI (qLn_isCrooked a3 v13 h12) (fun v15 h14 =>
                        if v15 = (0 : Int32) then
                        (isO h14 a0 4 (bV (qPs_scan a0 a1 h14) (fun h16 =>
                        k3 a0 a1 a2 a3 (x4 + (1 : Int32)) h16)))
                        else
                        rI (0 : Int32) h14)))))))))))))))))
      else
      qPs_readPoints_95 a0 a1 a3 h)
    else
    qPs_readPoints_95 a0 a1 a3 h)
def qPs_readPoints_3 : Nat → Nat → Nat → Nat → Nat → Int32 → XH → XR
  | 0 => fun _ _ _ _ _ _ => none
  | n + 1 => qPs_readPoints_3_b (qPs_readPoints_3 n)
def qPs_readPoints (a0 : Nat) (a1 : Nat) (a2 : Nat) (a3 : Nat) (h : XH) : XR :=
  qPs_readPoints_3 LF a0 a1 a2 a3 (0 : Int32) h
-- LineDiagram$Parser.parse(LLineDiagram$Text;LLineDiagram$Plan;)I
def qPs_parse_71 (a0 : Nat) (h : XH) : XR :=
  gI h a0 4 1 (fun v1 =>
  rI v1 h)
def qPs_parse_92 (a0 : Nat) (h : XH) : XR :=
  gI h a0 4 2 (fun v1 =>
  if v1 = (0 : Int32) then
    (rI (-2 : Int32) h)
    else
    gI h a0 4 1 (fun v2 =>
      rI v2 h))
def qPs_parse_26_b (k26 : Nat → Nat → Nat → Int32 → XH → XR) (a0 : Nat) (a1 : Nat) (a2 : Nat) (x3 : Int32) (h : XH) : XR :=
  gI h a0 4 2 (fun v1 =>
  if v1 = (7 : Int32) then
    (if x3 < (8 : Int32) then
      (gR h a2 5 4 (fun a_2 =>
        rdR h a_2 x3 (fun a_3 =>
          isO h a0 4 (bI (qPs_readHead a0 a1 a2 a_3 h) (fun v5 h4 =>
            if v5 = (0 : Int32) then
              (qPs_parse_71 a0 h4)
              else
              gR h4 a2 5 4 (fun a_6 =>
                rdR h4 a_6 x3 (fun a_7 =>
                  isO h4 a0 4 (bI (qPs_readPoints a0 a1 a2 a_7 h4) (fun v9 h8 =>
                    if v9 = (0 : Int32) then
                      (qPs_parse_71 a0 h8)
                      else
                      gI h8 a2 5 3 (fun v10 =>
                        pV h8 a2 5 3 (.int (v10 + (1 : Int32))) (fun h11 =>
                        k26 a0 a1 a2 (x3 + (1 : Int32)) h11)))))))))))
      else
      qPs_parse_92 a0 h)
    else
    qPs_parse_92 a0 h)
def qPs_parse_26 : Nat → Nat → Nat → Nat → Int32 → XH → XR
  | 0 => fun _ _ _ _ _ => none
  | n + 1 => qPs_parse_26_b (qPs_parse_26 n)
def qPs_parse (a0 : Nat) (a1 : Nat) (a2 : Nat) (h : XH) : XR :=
  pV h a0 4 0 (.int (0 : Int32)) (fun h1 =>
  isO h1 a0 4 (bV (qPs_scan a0 a1 h1) (fun h2 =>
    isO h2 a0 4 (bI (qPs_readBoard a0 a1 a2 h2) (fun v4 h3 =>
      if v4 = (0 : Int32) then
        (gI h3 a0 4 1 (fun v5 =>
          rI v5 h3))
        else
        qPs_parse_26 LF a0 a1 a2 (0 : Int32) h3)))))
-- LineDiagram$Line.copyFrom(LLineDiagram$Line;)V
def qLn_copyFrom (a0 : Nat) (a1 : Nat) (h : XH) : XR :=
  gI h a1 3 0 (fun v1 =>
  pV h a0 3 0 (.int v1) (fun h2 =>
    gI h2 a1 3 1 (fun v3 =>
      pV h2 a0 3 1 (.int v3) (fun h4 =>
        gI h4 a1 3 2 (fun v5 =>
          pV h4 a0 3 2 (.int v5) (fun h6 =>
            gI h6 a1 3 3 (fun v7 =>
              pV h6 a0 3 3 (.int v7) (fun h8 =>
                gR h8 a1 3 4 (fun a_9 =>
                  gR h8 a0 3 4 (fun a_10 =>
                    cpI h8 a_9 (0 : Int32) a_10 (0 : Int32) (10 : Int32) (fun h11 =>
                      gR h11 a1 3 5 (fun a_12 =>
                        gR h11 a0 3 5 (fun a_13 =>
                        cpI h11 a_12 (0 : Int32) a_13 (0 : Int32) (10 : Int32) (fun h14 =>
                        rV h14))))))))))))))
-- LineDiagram$Labels.copyFrom(LLineDiagram$Labels;)V
def qLb_copyFrom (a0 : Nat) (a1 : Nat) (h : XH) : XR :=
  gI h a1 2 0 (fun v1 =>
  pV h a0 2 0 (.int v1) (fun h2 =>
    gR h2 a1 2 1 (fun a_3 =>
      gR h2 a0 2 1 (fun a_4 =>
        cpI h2 a_3 (0 : Int32) a_4 (0 : Int32) (160 : Int32) (fun h5 =>
          gR h5 a1 2 2 (fun a_6 =>
            gR h5 a0 2 2 (fun a_7 =>
              cpI h5 a_6 (0 : Int32) a_7 (0 : Int32) (160 : Int32) (fun h8 =>
                rV h8))))))))
