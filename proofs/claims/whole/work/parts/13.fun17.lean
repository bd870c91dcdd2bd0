-- LineDiagramModel.isCrossing(I)Z
def qM_isCrossing (a0 : Nat) (x1 : Int32) (h : XH) : XR :=
  gR h a0 9 16 (fun a_1 =>
  rdI h a_1 x1 (fun v2 =>
    bI (qM_ones v2 h) (fun v4 h3 =>
      if (1 : Int32) < v4 then
        (isO h3 a0 9 (bI (qM_isPlace a0 x1 h3) (fun v6 h5 =>
          if v6 = (0 : Int32) then
            (rI (1 : Int32) h5)
            else
            rI (0 : Int32) h5)))
        else
        rI (0 : Int32) h3)))
-- LineDiagramModel.allCrossings()I
def qM_allCrossings_4_b (k4 : Nat → Int32 → Int32 → XH → XR) (a0 : Nat) (x1 : Int32) (x2 : Int32) (h : XH) : XR :=
  if x2 < (1600 : Int32) then
  (isO h a0 9 (bI (qM_isCrossing a0 x2 h) (fun v2 h1 =>
    if v2 = (0 : Int32) then
      (k4 a0 (x1 + (0 : Int32)) (x2 + (1 : Int32)) h1)
      else
      k4 a0 (x1 + (1 : Int32)) (x2 + (1 : Int32)) h1)))
  else
  rI x1 h
def qM_allCrossings_4 : Nat → Nat → Int32 → Int32 → XH → XR
  | 0 => fun _ _ _ _ => none
  | n + 1 => qM_allCrossings_4_b (qM_allCrossings_4 n)
def qM_allCrossings (a0 : Nat) (h : XH) : XR :=
  qM_allCrossings_4 LF a0 (0 : Int32) (0 : Int32) h
-- LineDiagramModel.has(II)Z
def qM_has (x0 : Int32) (x1 : Int32) (h : XH) : XR :=
  if ((jshr x0 x1) &&& (1 : Int32)) = (1 : Int32) then
  (rI (1 : Int32) h)
  else
  rI (0 : Int32) h
-- LineDiagramModel.crossBehind(III)Z
def qM_crossBehind_44 (x2 : Int32) (x3 : Int32) (x4 : Int32) (x5 : Int32) (h : XH) : XR :=
  bI (qM_has x4 x3 h) (fun v2 h1 =>
  if v2 = (0 : Int32) then
    (rI (0 : Int32) h1)
    else
    bI (qM_has x5 x2 h1) (fun v4 h3 =>
      if v4 = (0 : Int32) then
        (rI (0 : Int32) h3)
        else
        rI (1 : Int32) h3))
def qM_crossBehind (a0 : Nat) (x1 : Int32) (x2 : Int32) (x3 : Int32) (h : XH) : XR :=
  gR h a0 9 17 (fun a_1 =>
  rdI h a_1 (((4 : Int32) * x1) + (1 : Int32)) (fun v2 =>
    gR h a0 9 17 (fun a_3 =>
      rdI h a_3 (((4 : Int32) * (x1 + (1 : Int32))) + (3 : Int32)) (fun v4 =>
        bI (qM_has v2 x2 h) (fun v6 h5 =>
          if v6 = (0 : Int32) then
            (qM_crossBehind_44 x2 x3 v2 v4 h5)
            else
            bI (qM_has v4 x3 h5) (fun v8 h7 =>
              if v8 = (0 : Int32) then
                (qM_crossBehind_44 x2 x3 v2 v4 h7)
                else
                rI (1 : Int32) h7))))))
-- LineDiagramModel.between(II)I
def qM_between_5_b (k5 : Nat → Int32 → Int32 → Int32 → Int32 → XH → XR) (a0 : Nat) (x1 : Int32) (x2 : Int32) (x3 : Int32) (x4 : Int32) (h : XH) : XR :=
  if x4 < (1599 : Int32) then
  (isO h a0 9 (bI (qM_crossBehind a0 x4 x1 x2 h) (fun v2 h1 =>
    if v2 = (0 : Int32) then
      (k5 a0 x1 x2 (x3 + (0 : Int32)) (x4 + (1 : Int32)) h1)
      else
      k5 a0 x1 x2 (x3 + (1 : Int32)) (x4 + (1 : Int32)) h1)))
  else
  rI x3 h
def qM_between_5 : Nat → Nat → Int32 → Int32 → Int32 → Int32 → XH → XR
  | 0 => fun _ _ _ _ _ _ => none
  | n + 1 => qM_between_5_b (qM_between_5 n)
def qM_between (a0 : Nat) (x1 : Int32) (x2 : Int32) (h : XH) : XR :=
  qM_between_5 LF a0 x1 x2 (0 : Int32) (0 : Int32) h
-- LineDiagramModel.sideBySide(II)I
def qM_sideBySide_46 (k5 : Nat → Int32 → Int32 → Int32 → Int32 → XH → XR) (a0 : Nat) (x1 : Int32) (x2 : Int32) (x4 : Int32) (s0 : Int32) (h : XH) : XR :=
  k5 a0 x1 x2 (s0 + (0 : Int32)) (x4 + (1 : Int32)) h
def qM_sideBySide_5_b (k5 : Nat → Int32 → Int32 → Int32 → Int32 → XH → XR) (a0 : Nat) (x1 : Int32) (x2 : Int32) (x3 : Int32) (x4 : Int32) (h : XH) : XR :=
  if x4 < (6400 : Int32) then
  (gR h a0 9 17 (fun a_1 =>
    rdI h a_1 x4 (fun v2 =>
      bI (qM_has v2 x1 h) (fun v4 h3 =>
        if v4 = (0 : Int32) then
          (qM_sideBySide_46 k5 a0 x1 x2 x4 x3 h3)
          else
          gR h3 a0 9 17 (fun a_5 =>
            rdI h3 a_5 x4 (fun v6 =>
              bI (qM_has v6 x2 h3) (fun v8 h7 =>
                if v8 = (0 : Int32) then
                  (qM_sideBySide_46 k5 a0 x1 x2 x4 x3 h7)
                  else
                  k5 a0 x1 x2 (x3 + (1 : Int32)) (x4 + (1 : Int32)) h7)))))))
  else
  rI x3 h
def qM_sideBySide_5 : Nat → Nat → Int32 → Int32 → Int32 → Int32 → XH → XR
  | 0 => fun _ _ _ _ _ _ => none
  | n + 1 => qM_sideBySide_5_b (qM_sideBySide_5 n)
def qM_sideBySide (a0 : Nat) (x1 : Int32) (x2 : Int32) (h : XH) : XR :=
  qM_sideBySide_5 LF a0 x1 x2 (0 : Int32) (0 : Int32) h
-- LineDiagramModel.allOf(Z)I
def qM_allOf_17_b (k4 : Nat → Int32 → Int32 → Int32 → XH → XR) (k17 : Nat → Int32 → Int32 → Int32 → Int32 → XH → XR) (a0 : Nat) (x1 : Int32) (x2 : Int32) (x3 : Int32) (x4 : Int32) (h : XH) : XR :=
  gI h a0 9 6 (fun v1 =>
  if x4 < v1 then
    (if x1 = (0 : Int32) then
      (isO h a0 9 (bI (qM_sideBySide a0 x3 x4 h) (fun v3 h2 =>
        k17 a0 x1 (x2 + v3) x3 (x4 + (1 : Int32)) h2)))
      else
      isO h a0 9 (bI (qM_between a0 x3 x4 h) (fun v5 h4 =>
        k17 a0 x1 (x2 + v5) x3 (x4 + (1 : Int32)) h4)))
    else
    k4 a0 x1 x2 (x3 + (1 : Int32)) h)
def qM_allOf_17 (k4 : Nat → Int32 → Int32 → Int32 → XH → XR) : Nat → Nat → Int32 → Int32 → Int32 → Int32 → XH → XR
  | 0 => fun _ _ _ _ _ _ => none
  | n + 1 => qM_allOf_17_b k4 (qM_allOf_17 k4 n)
def qM_allOf_4_b (k4 : Nat → Int32 → Int32 → Int32 → XH → XR) (a0 : Nat) (x1 : Int32) (x2 : Int32) (x3 : Int32) (h : XH) : XR :=
  gI h a0 9 6 (fun v1 =>
  if x3 < v1 then
    (qM_allOf_17 k4 LF a0 x1 x2 x3 (x3 + (1 : Int32)) h)
    else
    rI x2 h)
def qM_allOf_4 : Nat → Nat → Int32 → Int32 → Int32 → XH → XR
  | 0 => fun _ _ _ _ _ => none
  | n + 1 => qM_allOf_4_b (qM_allOf_4 n)
def qM_allOf (a0 : Nat) (x1 : Int32) (h : XH) : XR :=
  qM_allOf_4 LF a0 x1 (0 : Int32) (0 : Int32) h
-- LineDiagramModel.value(I)I
def qM_value (a0 : Nat) (x1 : Int32) (h : XH) : XR :=
  isO h a0 9 (bV (qM_lays a0 h) (fun h1 =>
  if x1 = (0 : Int32) then (gI h1 a0 9 3 (fun v2 =>
      rI v2 h1)) else
    if x1 = (1 : Int32) then (gI h1 a0 9 4 (fun v3 =>
      rI v3 h1)) else
    if x1 = (2 : Int32) then (gI h1 a0 9 5 (fun v4 =>
      rI v4 h1)) else
    if x1 = (3 : Int32) then (gI h1 a0 9 6 (fun v5 =>
      rI v5 h1)) else
    if x1 = (4 : Int32) then (isO h1 a0 9 (bI (qM_allStops a0 h1) (fun v7 h6 =>
      rI v7 h6))) else
    if x1 = (5 : Int32) then (isO h1 a0 9 (bI (qM_cellsOf a0 (3 : Int32) h1) (fun v9 h8 =>
      rI v9 h8))) else
    if x1 = (6 : Int32) then (isO h1 a0 9 (bI (qM_manyLabels a0 h1) (fun v11 h10 =>
      rI v11 h10))) else
    if x1 = (7 : Int32) then (isO h1 a0 9 (bI (qM_cellsOf a0 (3 : Int32) h1) (fun v13 h12 =>
      isO h12 a0 9 (bI (qM_cellsOf a0 (2 : Int32) h12) (fun v15 h14 =>
        rI (v13 + v15) h14))))) else
    if x1 = (8 : Int32) then (isO h1 a0 9 (bI (qM_cellsOf a0 (1 : Int32) h1) (fun v17 h16 =>
      rI v17 h16))) else
    if x1 = (9 : Int32) then (isO h1 a0 9 (bI (qM_allCrossings a0 h1) (fun v19 h18 =>
      rI v19 h18))) else
    if x1 = (10 : Int32) then (isO h1 a0 9 (bI (qM_allOf a0 (1 : Int32) h1) (fun v21 h20 =>
      rI v21 h20))) else
    if x1 = (11 : Int32) then (isO h1 a0 9 (bI (qM_allOf a0 (0 : Int32) h1) (fun v23 h22 =>
      rI v23 h22))) else
    rI (-1 : Int32) h1))
-- LineDiagram$Line.countBends()I
def qLn_countBends_4_b (k4 : Nat → Int32 → Int32 → XH → XR) (a0 : Nat) (x1 : Int32) (x2 : Int32) (h : XH) : XR :=
  gI h a0 3 1 (fun v1 =>
  if x2 < (v1 - (1 : Int32)) then
    (isO h a0 3 (bI (qLn_turnAt a0 x2 h) (fun v3 h2 =>
      if v3 = (0 : Int32) then
        (k4 a0 x1 (x2 + (1 : Int32)) h2)
        else
        k4 a0 (x1 + (1 : Int32)) (x2 + (1 : Int32)) h2)))
    else
    rI x1 h)
def qLn_countBends_4 : Nat → Nat → Int32 → Int32 → XH → XR
  | 0 => fun _ _ _ _ => none
  | n + 1 => qLn_countBends_4_b (qLn_countBends_4 n)
def qLn_countBends (a0 : Nat) (h : XH) : XR :=
  qLn_countBends_4 LF a0 (0 : Int32) (1 : Int32) h
-- LineDiagram$Line.greatestTurn()I
def qLn_greatestTurn_4_b (k4 : Nat → Int32 → Int32 → XH → XR) (a0 : Nat) (x1 : Int32) (x2 : Int32) (h : XH) : XR :=
  gI h a0 3 1 (fun v1 =>
  if x2 < (v1 - (1 : Int32)) then
    (isO h a0 3 (bI (qLn_turnAt a0 x2 h) (fun v3 h2 =>
      k4 a0 (jmax x1 v3) (x2 + (1 : Int32)) h2)))
    else
    rI x1 h)
def qLn_greatestTurn_4 : Nat → Nat → Int32 → Int32 → XH → XR
  | 0 => fun _ _ _ _ => none
  | n + 1 => qLn_greatestTurn_4_b (qLn_greatestTurn_4 n)
def qLn_greatestTurn (a0 : Nat) (h : XH) : XR :=
  qLn_greatestTurn_4 LF a0 (0 : Int32) (1 : Int32) h
-- LineDiagram$Line.sumOfTurns()I
def qLn_sumOfTurns_4_b (k4 : Nat → Int32 → Int32 → XH → XR) (a0 : Nat) (x1 : Int32) (x2 : Int32) (h : XH) : XR :=
  gI h a0 3 1 (fun v1 =>
  if x2 < (v1 - (1 : Int32)) then
    (isO h a0 3 (bI (qLn_turnAt a0 x2 h) (fun v3 h2 =>
      k4 a0 (x1 + v3) (x2 + (1 : Int32)) h2)))
    else
    rI x1 h)
def qLn_sumOfTurns_4 : Nat → Nat → Int32 → Int32 → XH → XR
  | 0 => fun _ _ _ _ => none
  | n + 1 => qLn_sumOfTurns_4_b (qLn_sumOfTurns_4 n)
def qLn_sumOfTurns (a0 : Nat) (h : XH) : XR :=
  qLn_sumOfTurns_4 LF a0 (0 : Int32) (1 : Int32) h
-- LineDiagram$Line.slantingSteps()I
def qLn_slantingSteps_4_b (k4 : Nat → Int32 → Int32 → XH → XR) (a0 : Nat) (x1 : Int32) (x2 : Int32) (h : XH) : XR :=
  gI h a0 3 1 (fun v1 =>
  if x2 < (v1 - (1 : Int32)) then
    (isO h a0 3 (bI (qLn_wayOfRun a0 x2 h) (fun v3 h2 =>
      if (jrem v3 (2 : Int32)) = (1 : Int32) then
        (isO h2 a0 3 (bI (qLn_stepsOfRun a0 x2 h2) (fun v5 h4 =>
          k4 a0 (x1 + v5) (x2 + (1 : Int32)) h4)))
        else
        k4 a0 x1 (x2 + (1 : Int32)) h2)))
    else
    rI x1 h)
def qLn_slantingSteps_4 : Nat → Nat → Int32 → Int32 → XH → XR
  | 0 => fun _ _ _ _ => none
  | n + 1 => qLn_slantingSteps_4_b (qLn_slantingSteps_4 n)
def qLn_slantingSteps (a0 : Nat) (h : XH) : XR :=
  qLn_slantingSteps_4 LF a0 (0 : Int32) (0 : Int32) h
