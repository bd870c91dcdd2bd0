-- LineDiagram$Board.countMet(I)I
def qB_countMet_39 (x1 : Int32) (x2 : Int32) (h : XH) : XR :=
  bI (qJI_bitCount (x2 &&& ((jshl (1 : Int32) x1) ^^^ (-1 : Int32))) h) (fun v2 h1 =>
  rI v2 h1)
def qB_countMet_4_b (k4 : Nat → Int32 → Int32 → Int32 → XH → XR) (a0 : Nat) (x1 : Int32) (x2 : Int32) (x3 : Int32) (h : XH) : XR :=
  if x3 < (1600 : Int32) then
  (gR h a0 0 2 (fun a_1 =>
    rdI h a_1 x3 (fun v2 =>
      if ((jshr v2 x1) &&& (1 : Int32)) = (0 : Int32) then
        (k4 a0 x1 x2 (x3 + (1 : Int32)) h)
        else
        gR h a0 0 2 (fun a_3 =>
          rdI h a_3 x3 (fun v4 =>
            k4 a0 x1 (x2 ||| v4) (x3 + (1 : Int32)) h)))))
  else
  qB_countMet_39 x1 x2 h
def qB_countMet_4 : Nat → Nat → Int32 → Int32 → Int32 → XH → XR
  | 0 => fun _ _ _ _ _ => none
  | n + 1 => qB_countMet_4_b (qB_countMet_4 n)
def qB_countMet (a0 : Nat) (x1 : Int32) (h : XH) : XR :=
  qB_countMet_4 LF a0 x1 (0 : Int32) (0 : Int32) h
-- LineDiagram.line(II)I
def qD_line (a0 : Nat) (x1 : Int32) (x2 : Int32) (h : XH) : XR :=
  isO h a0 8 (bI (qD_isLine a0 x1 h) (fun v2 h1 =>
  if v2 = (0 : Int32) then
    (rI (-1 : Int32) h1)
    else
    gR h1 a0 8 3 (fun a_3 =>
      gR h1 a_3 5 4 (fun a_4 =>
        rdR h1 a_4 x1 (fun a_5 =>
          if x2 = (0 : Int32) then (gI h1 a_5 3 1 (fun v6 =>
              rI v6 h1)) else
            if x2 = (1 : Int32) then (gI h1 a_5 3 2 (fun v7 =>
              rI v7 h1)) else
            if x2 = (2 : Int32) then (gI h1 a_5 3 3 (fun v8 =>
              rI v8 h1)) else
            if x2 = (3 : Int32) then (isO h1 a_5 3 (bI (qLn_steps a_5 h1) (fun v10 h9 =>
              rI v10 h9))) else
            if x2 = (4 : Int32) then (isO h1 a_5 3 (bI (qLn_countBends a_5 h1) (fun v12 h11 =>
              rI v12 h11))) else
            if x2 = (5 : Int32) then (isO h1 a_5 3 (bI (qLn_greatestTurn a_5 h1) (fun v14 h13 =>
              rI v14 h13))) else
            if x2 = (6 : Int32) then (isO h1 a_5 3 (bI (qLn_sumOfTurns a_5 h1) (fun v16 h15 =>
              rI v16 h15))) else
            if x2 = (7 : Int32) then (isO h1 a_5 3 (bI (qLn_slantingSteps a_5 h1) (fun v18 h17 =>
              rI v18 h17))) else
            if x2 = (8 : Int32) then (gR h1 a0 8 8 (fun a_19 =>
              isO h1 a_19 0 (bI (qB_countMet a_19 x1 h1) (fun v21 h20 =>
                rI v21 h20)))) else
            rI (-1 : Int32) h1)))))
-- LineDiagramModel.turns(II)I
def qM_turns_43 (k5 : Nat → Int32 → Int32 → Int32 → Int32 → XH → XR) (a0 : Nat) (x1 : Int32) (x2 : Int32) (x4 : Int32) (s0 : Int32) (s1 : Int32) (h : XH) : XR :=
  k5 a0 x1 x2 (s1 + s0) (x4 + (1 : Int32)) h
def qM_turns_5_b (k5 : Nat → Int32 → Int32 → Int32 → Int32 → XH → XR) (a0 : Nat) (x1 : Int32) (x2 : Int32) (x3 : Int32) (x4 : Int32) (h : XH) : XR :=
  isO h a0 9 (bI (qM_of a0 x1 (2 : Int32) h) (fun v2 h1 =>
  if (x4 + (1 : Int32)) < v2 then
    (isO h1 a0 9 (bI (qM_turnAt a0 x1 x4 h1) (fun v4 h3 =>
      if x2 = (4 : Int32) then
        (if (0 : Int32) < v4 then
          (qM_turns_43 k5 a0 x1 x2 x4 (1 : Int32) x3 h3)
          else
          qM_turns_43 k5 a0 x1 x2 x4 (0 : Int32) x3 h3)
        else
        if x2 = (6 : Int32) then
          (k5 a0 x1 x2 (x3 + v4) (x4 + (1 : Int32)) h3)
          else
          if x3 < v4 then
            (k5 a0 x1 x2 v4 (x4 + (1 : Int32)) h3)
            else
            k5 a0 x1 x2 x3 (x4 + (1 : Int32)) h3)))
    else
    rI x3 h1))
def qM_turns_5 : Nat → Nat → Int32 → Int32 → Int32 → Int32 → XH → XR
  | 0 => fun _ _ _ _ _ _ => none
  | n + 1 => qM_turns_5_b (qM_turns_5 n)
def qM_turns (a0 : Nat) (x1 : Int32) (x2 : Int32) (h : XH) : XR :=
  qM_turns_5 LF a0 x1 x2 (0 : Int32) (1 : Int32) h
-- LineDiagramModel.slantsOf(I)I
def qM_slantsOf_4_b (k4 : Nat → Int32 → Int32 → Int32 → XH → XR) (a0 : Nat) (x1 : Int32) (x2 : Int32) (x3 : Int32) (h : XH) : XR :=
  isO h a0 9 (bI (qM_of a0 x1 (2 : Int32) h) (fun v2 h1 =>
  if (x3 + (1 : Int32)) < v2 then
    (isO h1 a0 9 (bI (qM_wayOf a0 x1 x3 h1) (fun v4 h3 =>
      if (jrem v4 (2 : Int32)) = (1 : Int32) then
        (isO h3 a0 9 (bI (qM_stepsOf a0 x1 x3 h3) (fun v6 h5 =>
          k4 a0 x1 (x2 + v6) (x3 + (1 : Int32)) h5)))
        else
        k4 a0 x1 (x2 + (0 : Int32)) (x3 + (1 : Int32)) h3)))
    else
    rI x2 h1))
def qM_slantsOf_4 : Nat → Nat → Int32 → Int32 → Int32 → XH → XR
  | 0 => fun _ _ _ _ _ => none
  | n + 1 => qM_slantsOf_4_b (qM_slantsOf_4 n)
def qM_slantsOf (a0 : Nat) (x1 : Int32) (h : XH) : XR :=
  qM_slantsOf_4 LF a0 x1 (0 : Int32) (0 : Int32) h
-- LineDiagramModel.meets(I)I
def qM_meets_43 (x1 : Int32) (x2 : Int32) (h : XH) : XR :=
  bI (qM_ones (x2 &&& ((jshl (1 : Int32) x1) ^^^ (-1 : Int32))) h) (fun v2 h1 =>
  rI v2 h1)
def qM_meets_4_b (k4 : Nat → Int32 → Int32 → Int32 → XH → XR) (a0 : Nat) (x1 : Int32) (x2 : Int32) (x3 : Int32) (h : XH) : XR :=
  if x3 < (1600 : Int32) then
  (gR h a0 9 16 (fun a_1 =>
    rdI h a_1 x3 (fun v2 =>
      bI (qM_has v2 x1 h) (fun v4 h3 =>
        if v4 = (0 : Int32) then
          (k4 a0 x1 (x2 ||| (0 : Int32)) (x3 + (1 : Int32)) h3)
          else
          gR h3 a0 9 16 (fun a_5 =>
            rdI h3 a_5 x3 (fun v6 =>
              k4 a0 x1 (x2 ||| v6) (x3 + (1 : Int32)) h3))))))
  else
  qM_meets_43 x1 x2 h
def qM_meets_4 : Nat → Nat → Int32 → Int32 → Int32 → XH → XR
  | 0 => fun _ _ _ _ _ => none
  | n + 1 => qM_meets_4_b (qM_meets_4 n)
def qM_meets (a0 : Nat) (x1 : Int32) (h : XH) : XR :=
  qM_meets_4 LF a0 x1 (0 : Int32) (0 : Int32) h
-- LineDiagramModel.line(II)I
def qM_line_87 (a0 : Nat) (x1 : Int32) (x2 : Int32) (h : XH) : XR :=
  isO h a0 9 (bI (qM_turns a0 x1 x2 h) (fun v2 h1 =>
  rI v2 h1))
def qM_line (a0 : Nat) (x1 : Int32) (x2 : Int32) (h : XH) : XR :=
  isO h a0 9 (bI (qM_isLine a0 x1 h) (fun v2 h1 =>
  if v2 = (0 : Int32) then
    (rI (-1 : Int32) h1)
    else
    if x2 = (0 : Int32) then (isO h1 a0 9 (bI (qM_of a0 x1 (2 : Int32) h1) (fun v4 h3 =>
        rI v4 h3))) else
      if x2 = (1 : Int32) then (isO h1 a0 9 (bI (qM_of a0 x1 (1 : Int32) h1) (fun v6 h5 =>
        rI v6 h5))) else
      if x2 = (2 : Int32) then (isO h1 a0 9 (bI (qM_of a0 x1 (0 : Int32) h1) (fun v8 h7 =>
        rI v8 h7))) else
      if x2 = (3 : Int32) then (isO h1 a0 9 (bI (qM_lengthOf a0 x1 h1) (fun v10 h9 =>
        rI v10 h9))) else
      if x2 = (4 : Int32) then (qM_line_87 a0 x1 x2 h1) else
      if x2 = (5 : Int32) then (qM_line_87 a0 x1 x2 h1) else
      if x2 = (6 : Int32) then (qM_line_87 a0 x1 x2 h1) else
      if x2 = (7 : Int32) then (isO h1 a0 9 (bI (qM_slantsOf a0 x1 h1) (fun v12 h11 =>
        rI v12 h11))) else
      if x2 = (8 : Int32) then (isO h1 a0 9 (bV (qM_lays a0 h1) (fun h13 =>
        isO h13 a0 9 (bI (qM_meets a0 x1 h13) (fun v15 h14 =>
          rI v15 h14))))) else
      rI (-1 : Int32) h1))
-- LineDiagram.point(IIZ)I
def qD_point (a0 : Nat) (x1 : Int32) (x2 : Int32) (x3 : Int32) (h : XH) : XR :=
  isO h a0 8 (bI (qD_isPoint a0 x1 x2 h) (fun v2 h1 =>
  if v2 = (0 : Int32) then
    (rI (-1 : Int32) h1)
    else
    if x3 = (0 : Int32) then
      (gR h1 a0 8 3 (fun a_3 =>
        gR h1 a_3 5 4 (fun a_4 =>
          rdR h1 a_4 x1 (fun a_5 =>
            gR h1 a_5 3 5 (fun a_6 =>
              rdI h1 a_6 x2 (fun v7 =>
                rI v7 h1))))))
      else
      gR h1 a0 8 3 (fun a_8 =>
        gR h1 a_8 5 4 (fun a_9 =>
          rdR h1 a_9 x1 (fun a_10 =>
            gR h1 a_10 3 4 (fun a_11 =>
              rdI h1 a_11 x2 (fun v12 =>
                rI v12 h1)))))))
-- LineDiagramModel.point(IIZ)I
def qM_point (a0 : Nat) (x1 : Int32) (x2 : Int32) (x3 : Int32) (h : XH) : XR :=
  isO h a0 9 (bI (qM_isPoint a0 x1 x2 h) (fun v2 h1 =>
  if v2 = (0 : Int32) then
    (rI (-1 : Int32) h1)
    else
    if x3 = (0 : Int32) then
      (isO h1 a0 9 (bI (qM_py a0 x1 x2 h1) (fun v4 h3 =>
        rI v4 h3)))
      else
      isO h1 a0 9 (bI (qM_px a0 x1 x2 h1) (fun v6 h5 =>
        rI v6 h5))))
-- LineDiagram.turn(II)I
def qD_turn (a0 : Nat) (x1 : Int32) (x2 : Int32) (h : XH) : XR :=
  isO h a0 8 (bI (qD_isPoint a0 x1 x2 h) (fun v2 h1 =>
  if v2 = (0 : Int32) then
    (rI (-1 : Int32) h1)
    else
    gR h1 a0 8 3 (fun a_3 =>
      gR h1 a_3 5 4 (fun a_4 =>
        rdR h1 a_4 x1 (fun a_5 =>
          if x2 = (0 : Int32) then
            (rI (-2 : Int32) h1)
            else
            gI h1 a_5 3 1 (fun v6 =>
              if x2 = (v6 - (1 : Int32)) then
                (rI (-2 : Int32) h1)
                else
                isO h1 a_5 3 (bI (qLn_turnAt a_5 x2 h1) (fun v8 h7 =>
                  rI v8 h7))))))))
-- LineDiagramModel.turn(II)I
def qM_turn (a0 : Nat) (x1 : Int32) (x2 : Int32) (h : XH) : XR :=
  isO h a0 9 (bI (qM_isPoint a0 x1 x2 h) (fun v2 h1 =>
  if v2 = (0 : Int32) then
    (rI (-1 : Int32) h1)
    else
    if x2 = (0 : Int32) then
      (rI (-2 : Int32) h1)
      else
      isO h1 a0 9 (bI (qM_of a0 x1 (2 : Int32) h1) (fun v4 h3 =>
        if x2 = (v4 - (1 : Int32)) then
          (rI (-2 : Int32) h3)
          else
          isO h3 a0 9 (bI (qM_turnAt a0 x1 x2 h3) (fun v6 h5 =>
            rI v6 h5))))))
-- LineDiagram$Line.wayToStep(I)I
def qLn_wayToStep_37 (a0 : Nat) (x2 : Int32) (h : XH) : XR :=
  isO h a0 3 (bI (qLn_wayOfRun a0 x2 h) (fun v2 h1 =>
  rI v2 h1))
def qLn_wayToStep_8_b (k8 : Nat → Int32 → Int32 → Int32 → XH → XR) (a0 : Nat) (x1 : Int32) (x2 : Int32) (x3 : Int32) (h : XH) : XR :=
  if x3 < x1 then
  (gI h a0 3 1 (fun v1 =>
    if x2 < (v1 - (2 : Int32)) then
      (isO h a0 3 (bI (qLn_stepsOfRun a0 (x2 + (1 : Int32)) h) (fun v3 h2 =>
        k8 a0 x1 (x2 + (1 : Int32)) (x3 + v3) h2)))
      else
      qLn_wayToStep_37 a0 x2 h))
  else
  qLn_wayToStep_37 a0 x2 h
def qLn_wayToStep_8 : Nat → Nat → Int32 → Int32 → Int32 → XH → XR
  | 0 => fun _ _ _ _ _ => none
  | n + 1 => qLn_wayToStep_8_b (qLn_wayToStep_8 n)
def qLn_wayToStep (a0 : Nat) (x1 : Int32) (h : XH) : XR :=
  isO h a0 3 (bI (qLn_stepsOfRun a0 (0 : Int32) h) (fun v2 h1 =>
  qLn_wayToStep_8 LF a0 x1 (0 : Int32) v2 h1))
-- LineDiagram.station(III)I
def qD_station (a0 : Nat) (x1 : Int32) (x2 : Int32) (x3 : Int32) (h : XH) : XR :=
  isO h a0 8 (bI (qD_isStation a0 x1 x2 h) (fun v2 h1 =>
  if v2 = (0 : Int32) then
    (rI (-1 : Int32) h1)
    else
    gR h1 a0 8 3 (fun a_3 =>
      gR h1 a_3 5 4 (fun a_4 =>
        rdR h1 a_4 x1 (fun a_5 =>
          gR h1 a0 8 8 (fun a_6 =>
            isO h1 a_6 0 (bI (qB_stationCell a_6 x1 x2 h1) (fun v8 h7 =>
              if x3 = (0 : Int32) then (bI (qD_columnOf v8 h7) (fun v10 h9 =>
                  rI v10 h9)) else
                if x3 = (1 : Int32) then (bI (qD_rowOf v8 h7) (fun v12 h11 =>
                  rI v12 h11)) else
                if x3 = (2 : Int32) then (isO h7 a_5 3 (bI (qLn_steps a_5 h7) (fun v14 h13 =>
                  isO h13 a_5 3 (bI (qLn_stepOfStation a_5 x2 v14 h13) (fun v16 h15 =>
                    rI v16 h15))))) else
                if x3 = (3 : Int32) then (isO h7 a_5 3 (bI (qLn_steps a_5 h7) (fun v18 h17 =>
                  isO h17 a_5 3 (bI (qLn_stepOfStation a_5 x2 v18 h17) (fun v20 h19 =>
                    isO h19 a_5 3 (bI (qLn_wayToStep a_5 v20 h19) (fun v22 h21 =>
                      rI v22 h21))))))) else
                if x3 = (4 : Int32) then (isO h7 a_5 3 (bI (qLn_longOf a_5 x2 h7) (fun v24 h23 =>
                  rI v24 h23))) else
                if x3 = (5 : Int32) then (gR h7 a0 8 8 (fun a_25 =>
                  gR h7 a_25 0 4 (fun a_26 =>
                    rdI h7 a_26 v8 (fun v27 =>
                      rI v27 h7)))) else
                rI (-1 : Int32) h7))))))))
