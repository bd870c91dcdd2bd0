-- LineDiagramModel.wayOfStation(II)I
def qM_wayOfStation_49 (x4 : Int32) (s0 : Int32) (s1 : Int32) (s2 : Nat) (h : XH) : XR :=
  rdI h s2 (s1 + s0) (fun v1 =>
  bI (qM_wayTo (jrem x4 (40 : Int32)) (x4 / (40 : Int32)) (jrem v1 (40 : Int32)) (v1 / (40 : Int32)) h) (fun v3 h2 =>
    rI v3 h2))
def qM_wayOfStation_27 (a0 : Nat) (x1 : Int32) (x3 : Int32) (s0 : Int32) (s1 : Int32) (s2 : Nat) (h : XH) : XR :=
  rdI h s2 (s1 + s0) (fun v1 =>
  gR h a0 9 15 (fun a_2 =>
    if x3 = (0 : Int32) then
      (qM_wayOfStation_49 v1 (1 : Int32) ((400 : Int32) * x1) a_2 h)
      else
      qM_wayOfStation_49 v1 x3 ((400 : Int32) * x1) a_2 h))
def qM_wayOfStation (a0 : Nat) (x1 : Int32) (x2 : Int32) (h : XH) : XR :=
  isO h a0 9 (bI (qM_stepsTo a0 x1 x2 h) (fun v2 h1 =>
  gR h1 a0 9 15 (fun a_3 =>
    if v2 = (0 : Int32) then
      (qM_wayOfStation_27 a0 x1 v2 (0 : Int32) ((400 : Int32) * x1) a_3 h1)
      else
      qM_wayOfStation_27 a0 x1 v2 (v2 - (1 : Int32)) ((400 : Int32) * x1) a_3 h1)))
-- LineDiagramModel.station(III)I
def qM_station (a0 : Nat) (x1 : Int32) (x2 : Int32) (x3 : Int32) (h : XH) : XR :=
  isO h a0 9 (bI (qM_isStation a0 x1 x2 h) (fun v2 h1 =>
  if v2 = (0 : Int32) then
    (rI (-1 : Int32) h1)
    else
    isO h1 a0 9 (bV (qM_lays a0 h1) (fun h3 =>
      isO h3 a0 9 (bI (qM_cellOf a0 x1 x2 h3) (fun v5 h4 =>
        if x3 = (0 : Int32) then (rI (jrem v5 (40 : Int32)) h4) else
          if x3 = (1 : Int32) then (rI (v5 / (40 : Int32)) h4) else
          if x3 = (2 : Int32) then (isO h4 a0 9 (bI (qM_stepsTo a0 x1 x2 h4) (fun v7 h6 =>
            rI v7 h6))) else
          if x3 = (3 : Int32) then (isO h4 a0 9 (bI (qM_wayOfStation a0 x1 x2 h4) (fun v9 h8 =>
            rI v9 h8))) else
          if x3 = (4 : Int32) then (isO h4 a0 9 (bI (qM_longOfStation a0 x1 x2 h4) (fun v11 h10 =>
            rI v11 h10))) else
          if x3 = (5 : Int32) then (gR h4 a0 9 18 (fun a_12 =>
            rdI h4 a_12 v5 (fun v13 =>
              rI v13 h4))) else
          rI (-1 : Int32) h4))))))
-- LineDiagram.at(II)I
def qD_at (a0 : Nat) (x1 : Int32) (x2 : Int32) (h : XH) : XR :=
  isO h a0 8 (bI (qD_isCell a0 x1 x2 h) (fun v2 h1 =>
  if v2 = (0 : Int32) then
    (rI (-1 : Int32) h1)
    else
    bI (qD_cellAt x1 x2 h1) (fun v4 h3 =>
      gR h3 a0 8 8 (fun a_5 =>
        gR h3 a_5 0 4 (fun a_6 =>
          rdI h3 a_6 v4 (fun v7 =>
            if (0 : Int32) < v7 then
              (rI (3 : Int32) h3)
              else
              gR h3 a0 8 8 (fun a_8 =>
                gR h3 a_8 0 2 (fun a_9 =>
                  rdI h3 a_9 v4 (fun v10 =>
                    if v10 = (0 : Int32) then
                      (gR h3 a0 8 8 (fun a_11 =>
                        gR h3 a_11 0 7 (fun a_12 =>
                        rdI h3 a_12 v4 (fun v13 =>
                        if v13 = (0 : Int32) then
                        (rI (0 : Int32) h3)
                        else
                        rI (1 : Int32) h3))))
                      else
                      rI (2 : Int32) h3)))))))))
-- LineDiagramModel.at(II)I
def qM_at (a0 : Nat) (x1 : Int32) (x2 : Int32) (h : XH) : XR :=
  isO h a0 9 (bI (qM_isCell a0 x1 x2 h) (fun v2 h1 =>
  if v2 = (0 : Int32) then
    (rI (-1 : Int32) h1)
    else
    isO h1 a0 9 (bV (qM_lays a0 h1) (fun h3 =>
      bI (qM_cell x1 x2 h3) (fun v5 h4 =>
        isO h4 a0 9 (bI (qM_sortOf a0 v5 h4) (fun v7 h6 =>
          rI v7 h6)))))))
-- LineDiagram.linesAt(II)I
def qD_linesAt (a0 : Nat) (x1 : Int32) (x2 : Int32) (h : XH) : XR :=
  isO h a0 8 (bI (qD_isCell a0 x1 x2 h) (fun v2 h1 =>
  if v2 = (0 : Int32) then
    (rI (-1 : Int32) h1)
    else
    gR h1 a0 8 8 (fun a_3 =>
      gR h1 a_3 0 2 (fun a_4 =>
        bI (qD_cellAt x1 x2 h1) (fun v6 h5 =>
          rdI h5 a_4 v6 (fun v7 =>
            rI v7 h5))))))
-- LineDiagramModel.linesAt(II)I
def qM_linesAt (a0 : Nat) (x1 : Int32) (x2 : Int32) (h : XH) : XR :=
  isO h a0 9 (bI (qM_isCell a0 x1 x2 h) (fun v2 h1 =>
  if v2 = (0 : Int32) then
    (rI (-1 : Int32) h1)
    else
    isO h1 a0 9 (bV (qM_lays a0 h1) (fun h3 =>
      gR h3 a0 9 16 (fun a_4 =>
        bI (qM_cell x1 x2 h3) (fun v6 h5 =>
          rdI h5 a_4 v6 (fun v7 =>
            rI v7 h5)))))))
-- LineDiagram$Line.unevenness()I
def qLn_unevenness_12_b (k12 : Nat → Int32 → Int32 → Int32 → Int32 → XH → XR) (a0 : Nat) (x1 : Int32) (x2 : Int32) (x3 : Int32) (x4 : Int32) (h : XH) : XR :=
  gI h a0 3 2 (fun v1 =>
  if x4 < v1 then
    (isO h a0 3 (bI (qLn_stepOfStation a0 x4 x1 h) (fun v3 h2 =>
      isO h2 a0 3 (bI (qLn_stepOfStation a0 (x4 - (1 : Int32)) x1 h2) (fun v5 h4 =>
        k12 a0 x1 (jmax x2 (v3 - v5)) (jmin x3 (v3 - v5)) (x4 + (1 : Int32)) h4)))))
    else
    rI (x2 - x3) h)
def qLn_unevenness_12 : Nat → Nat → Int32 → Int32 → Int32 → Int32 → XH → XR
  | 0 => fun _ _ _ _ _ _ => none
  | n + 1 => qLn_unevenness_12_b (qLn_unevenness_12 n)
def qLn_unevenness (a0 : Nat) (h : XH) : XR :=
  isO h a0 3 (bI (qLn_steps a0 h) (fun v2 h1 =>
  qLn_unevenness_12 LF a0 v2 (0 : Int32) v2 (1 : Int32) h1))
-- LineDiagram.uneven(I)I
def qD_uneven (a0 : Nat) (x1 : Int32) (h : XH) : XR :=
  isO h a0 8 (bI (qD_isLine a0 x1 h) (fun v2 h1 =>
  if v2 = (0 : Int32) then
    (rI (-1 : Int32) h1)
    else
    gR h1 a0 8 3 (fun a_3 =>
      gR h1 a_3 5 4 (fun a_4 =>
        rdR h1 a_4 x1 (fun a_5 =>
          isO h1 a_5 3 (bI (qLn_unevenness a_5 h1) (fun v7 h6 =>
            rI v7 h6)))))))
-- LineDiagramModel.uneven(I)I
def qM_uneven_65 (k23 : Nat → Int32 → Int32 → Int32 → Int32 → XH → XR) (a0 : Nat) (x1 : Int32) (x3 : Int32) (x4 : Int32) (x5 : Int32) (s0 : Int32) (h : XH) : XR :=
  if x3 < x5 then
  (k23 a0 x1 s0 x5 (x4 + (1 : Int32)) h)
  else
  k23 a0 x1 s0 x3 (x4 + (1 : Int32)) h
def qM_uneven_23_b (k23 : Nat → Int32 → Int32 → Int32 → Int32 → XH → XR) (a0 : Nat) (x1 : Int32) (x2 : Int32) (x3 : Int32) (x4 : Int32) (h : XH) : XR :=
  isO h a0 9 (bI (qM_of a0 x1 (1 : Int32) h) (fun v2 h1 =>
  if x4 < v2 then
    (isO h1 a0 9 (bI (qM_stepsTo a0 x1 x4 h1) (fun v4 h3 =>
      isO h3 a0 9 (bI (qM_stepsTo a0 x1 (x4 - (1 : Int32)) h3) (fun v6 h5 =>
        if (v4 - v6) < x2 then
          (qM_uneven_65 k23 a0 x1 x3 x4 (v4 - v6) (v4 - v6) h5)
          else
          qM_uneven_65 k23 a0 x1 x3 x4 (v4 - v6) x2 h5)))))
    else
    rI (x3 - x2) h1))
def qM_uneven_23 : Nat → Nat → Int32 → Int32 → Int32 → Int32 → XH → XR
  | 0 => fun _ _ _ _ _ _ => none
  | n + 1 => qM_uneven_23_b (qM_uneven_23 n)
def qM_uneven (a0 : Nat) (x1 : Int32) (h : XH) : XR :=
  isO h a0 9 (bI (qM_isLine a0 x1 h) (fun v2 h1 =>
  if v2 = (0 : Int32) then
    (rI (-1 : Int32) h1)
    else
    isO h1 a0 9 (bV (qM_lays a0 h1) (fun h3 =>
      qM_uneven_23 LF a0 x1 (1000000 : Int32) (0 : Int32) (1 : Int32) h3))))
-- LineDiagram.crookedest()I
def qD_crookedest_7_b (k7 : Nat → Int32 → Int32 → Int32 → XH → XR) (a0 : Nat) (x1 : Int32) (x2 : Int32) (x3 : Int32) (h : XH) : XR :=
  gR h a0 8 3 (fun a_1 =>
  gI h a_1 5 3 (fun v2 =>
    if x3 < v2 then
      (gR h a0 8 3 (fun a_3 =>
        gR h a_3 5 4 (fun a_4 =>
          rdR h a_4 x3 (fun a_5 =>
            isO h a_5 3 (bI (qLn_sumOfTurns a_5 h) (fun v7 h6 =>
              if x2 < v7 then
                (k7 a0 x3 v7 (x3 + (1 : Int32)) h6)
                else
                k7 a0 x1 x2 (x3 + (1 : Int32)) h6))))))
      else
      rI x1 h))
def qD_crookedest_7 : Nat → Nat → Int32 → Int32 → Int32 → XH → XR
  | 0 => fun _ _ _ _ _ => none
  | n + 1 => qD_crookedest_7_b (qD_crookedest_7 n)
def qD_crookedest (a0 : Nat) (h : XH) : XR :=
  qD_crookedest_7 LF a0 (-2 : Int32) (-1 : Int32) (0 : Int32) h
-- LineDiagramModel.crookedest()I
def qM_crookedest_34 (k5 : Nat → Int32 → Int32 → XH → XR) (a0 : Nat) (x2 : Int32) (h : XH) : XR :=
  k5 a0 x2 (x2 + (1 : Int32)) h
def qM_crookedest_5_b (k5 : Nat → Int32 → Int32 → XH → XR) (a0 : Nat) (x1 : Int32) (x2 : Int32) (h : XH) : XR :=
  gI h a0 9 6 (fun v1 =>
  if x2 < v1 then
    (if x1 < (0 : Int32) then
      (qM_crookedest_34 k5 a0 x2 h)
      else
      isO h a0 9 (bI (qM_turns a0 x2 (6 : Int32) h) (fun v3 h2 =>
        isO h2 a0 9 (bI (qM_turns a0 x1 (6 : Int32) h2) (fun v5 h4 =>
          if v5 < v3 then
            (qM_crookedest_34 k5 a0 x2 h4)
            else
            k5 a0 x1 (x2 + (1 : Int32)) h4)))))
    else
    rI x1 h)
def qM_crookedest_5 : Nat → Nat → Int32 → Int32 → XH → XR
  | 0 => fun _ _ _ _ => none
  | n + 1 => qM_crookedest_5_b (qM_crookedest_5 n)
def qM_crookedest (a0 : Nat) (h : XH) : XR :=
  qM_crookedest_5 LF a0 (-2 : Int32) (0 : Int32) h
-- LineDiagram.codeOf(I)I
def qD_codeOf (x0 : Int32) (h : XH) : XR :=
  bI (qD_rowOf x0 h) (fun v2 h1 =>
  bI (qD_columnOf x0 h1) (fun v4 h3 =>
    rI (((64 : Int32) * v2) + v4) h3))
