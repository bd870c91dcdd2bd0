-- LineDiagramModel.faultOf(I)I
def qM_faultOf_49 (a0 : Nat) (x1 : Int32) (h : XH) : XR :=
  isO h a0 9 (bI (qM_lengthOf a0 x1 h) (fun v2 h1 =>
  isO h1 a0 9 (bI (qM_of a0 x1 (1 : Int32) h1) (fun v4 h3 =>
    if v2 < (v4 - (1 : Int32)) then
      (rI (-4 : Int32) h3)
      else
      rI (0 : Int32) h3))))
def qM_faultOf_2_b (k2 : Nat → Int32 → Int32 → XH → XR) (a0 : Nat) (x1 : Int32) (x2 : Int32) (h : XH) : XR :=
  isO h a0 9 (bI (qM_of a0 x1 (2 : Int32) h) (fun v2 h1 =>
  if (x2 + (1 : Int32)) < v2 then
    (isO h1 a0 9 (bI (qM_wayOf a0 x1 x2 h1) (fun v4 h3 =>
      if v4 < (0 : Int32) then
        (rI (-3 : Int32) h3)
        else
        if (0 : Int32) < x2 then
          (isO h3 a0 9 (bI (qM_turnAt a0 x1 x2 h3) (fun v6 h5 =>
            gI h5 a0 9 5 (fun v7 =>
              if v7 < v6 then
                (rI (-3 : Int32) h5)
                else
                k2 a0 x1 (x2 + (1 : Int32)) h5))))
          else
          k2 a0 x1 (x2 + (1 : Int32)) h3)))
    else
    qM_faultOf_49 a0 x1 h1))
def qM_faultOf_2 : Nat → Nat → Int32 → Int32 → XH → XR
  | 0 => fun _ _ _ _ => none
  | n + 1 => qM_faultOf_2_b (qM_faultOf_2 n)
def qM_faultOf (a0 : Nat) (x1 : Int32) (h : XH) : XR :=
  qM_faultOf_2 LF a0 x1 (0 : Int32) h
-- LineDiagramModel.comesBack()V
def qM_comesBack_2_b (k2 : Nat → Int32 → XH → XR) (a0 : Nat) (x1 : Int32) (h : XH) : XR :=
  if x1 < (1784 : Int32) then
  (gR h a0 9 8 (fun a_1 =>
    gR h a0 9 9 (fun a_2 =>
      rdI h a_2 x1 (fun v3 =>
        wrI h a_1 x1 v3 (fun h4 =>
          k2 a0 (x1 + (1 : Int32)) h4)))))
  else
  rV h
def qM_comesBack_2 : Nat → Nat → Int32 → XH → XR
  | 0 => fun _ _ _ => none
  | n + 1 => qM_comesBack_2_b (qM_comesBack_2 n)
def qM_comesBack (a0 : Nat) (h : XH) : XR :=
  qM_comesBack_2 LF a0 (0 : Int32) h
-- LineDiagramModel.cell(II)I
def qM_cell (x0 : Int32) (x1 : Int32) (h : XH) : XR :=
  rI (((40 : Int32) * x1) + x0) h
-- LineDiagramModel.columnOf(II)I
def qM_columnOf_33 (a0 : Nat) (x1 : Int32) (x3 : Int32) (h : XH) : XR :=
  gR h a0 9 20 (fun a_1 =>
  rdI h a_1 x1 (fun v2 =>
    rI (x3 - v2) h))
def qM_columnOf (a0 : Nat) (x1 : Int32) (x2 : Int32) (h : XH) : XR :=
  if (5 : Int32) < x2 then
  (gR h a0 9 20 (fun a_1 =>
    rdI h a_1 x1 (fun v2 =>
      rI ((jrem x1 (40 : Int32)) - (v2 / (2 : Int32))) h)))
  else
  if x2 = (1 : Int32) then
    (qM_columnOf_33 a0 x1 (jrem x1 (40 : Int32)) h)
    else
    if (3 : Int32) < x2 then
      (qM_columnOf_33 a0 x1 (jrem x1 (40 : Int32)) h)
      else
      rI ((jrem x1 (40 : Int32)) + (1 : Int32)) h
-- LineDiagramModel.rowOf(II)I
def qM_rowOf (x0 : Int32) (x1 : Int32) (h : XH) : XR :=
  if x1 < (2 : Int32) then
  (rI (x0 / (40 : Int32)) h)
  else
  if (jrem x1 (2 : Int32)) = (0 : Int32) then
    (rI ((x0 / (40 : Int32)) - (1 : Int32)) h)
    else
    rI ((x0 / (40 : Int32)) + (1 : Int32)) h
-- LineDiagramModel.laysLabel(III)V
def qM_laysLabel_19_b (k19 : Nat → Int32 → Int32 → Int32 → Int32 → XH → XR) (a0 : Nat) (x1 : Int32) (x3 : Int32) (x4 : Int32) (x5 : Int32) (h : XH) : XR :=
  gR h a0 9 20 (fun a_1 =>
  rdI h a_1 x1 (fun v2 =>
    if x5 < v2 then
      (gR h a0 9 21 (fun a_3 =>
        wrI h a_3 (x4 + x5) x3 (fun h4 =>
          k19 a0 x1 x3 x4 (x5 + (1 : Int32)) h4)))
      else
      rV h))
def qM_laysLabel_19 : Nat → Nat → Int32 → Int32 → Int32 → Int32 → XH → XR
  | 0 => fun _ _ _ _ _ _ => none
  | n + 1 => qM_laysLabel_19_b (qM_laysLabel_19 n)
def qM_laysLabel (a0 : Nat) (x1 : Int32) (x2 : Int32) (x3 : Int32) (h : XH) : XR :=
  isO h a0 9 (bI (qM_columnOf a0 x1 x2 h) (fun v2 h1 =>
  bI (qM_rowOf x1 x2 h1) (fun v4 h3 =>
    bI (qM_cell v2 v4 h3) (fun v6 h5 =>
      qM_laysLabel_19 LF a0 x1 x3 v6 (0 : Int32) h5))))
-- LineDiagramModel.labelOf(I)I
def qM_labelOf (a0 : Nat) (x1 : Int32) (h : XH) : XR :=
  gR h a0 9 8 (fun a_1 =>
  rdI h a_1 ((184 : Int32) + x1) (fun v2 =>
    rI v2 h))
-- LineDiagramModel.laysRun(II)V
def qM_laysRun_72 (k34 : Nat → Int32 → Int32 → Int32 → Int32 → XH → XR) (a0 : Nat) (x1 : Int32) (x3 : Int32) (x5 : Int32) (x6 : Int32) (s0 : Int32) (s1 : Int32) (s2 : Nat) (h : XH) : XR :=
  rdI h s2 ((s1 * s0) + (jrem x3 (4 : Int32))) (fun v1 =>
  wrI h s2 ((s1 * s0) + (jrem x3 (4 : Int32))) (v1 ||| (jshl (1 : Int32) x1)) (fun h2 =>
    gR h2 a0 9 14 (fun a_3 =>
      rdI h2 a_3 x1 (fun v4 =>
        wrI h2 a_3 x1 (v4 + (1 : Int32)) (fun h5 =>
          gR h5 a0 9 15 (fun a_6 =>
            gR h5 a0 9 14 (fun a_7 =>
              rdI h5 a_7 x1 (fun v8 =>
                wrI h5 a_6 (((400 : Int32) * x1) + v8) x6 (fun h9 =>
                  gR h9 a0 9 16 (fun a_10 =>
                    rdI h9 a_10 x6 (fun v11 =>
                      wrI h9 a_10 x6 (v11 ||| (jshl (1 : Int32) x1)) (fun h12 =>
                        k34 a0 x1 x3 x6 (x5 + (-1 : Int32)) h12))))))))))))
def qM_laysRun_34_b (k34 : Nat → Int32 → Int32 → Int32 → Int32 → XH → XR) (a0 : Nat) (x1 : Int32) (x3 : Int32) (x4 : Int32) (x5 : Int32) (h : XH) : XR :=
  if (0 : Int32) < x5 then
  (bI (qM_dx x3 h) (fun v2 h1 =>
    bI (qM_dy x3 h1) (fun v4 h3 =>
      bI (qM_cell v2 v4 h3) (fun v6 h5 =>
        gR h5 a0 9 17 (fun a_7 =>
          if x3 < (4 : Int32) then
            (qM_laysRun_72 k34 a0 x1 x3 x5 (x4 + v6) x4 (4 : Int32) a_7 h5)
            else
            qM_laysRun_72 k34 a0 x1 x3 x5 (x4 + v6) (x4 + v6) (4 : Int32) a_7 h5)))))
  else
  rV h
def qM_laysRun_34 : Nat → Nat → Int32 → Int32 → Int32 → Int32 → XH → XR
  | 0 => fun _ _ _ _ _ _ => none
  | n + 1 => qM_laysRun_34_b (qM_laysRun_34 n)
def qM_laysRun (a0 : Nat) (x1 : Int32) (x2 : Int32) (h : XH) : XR :=
  isO h a0 9 (bI (qM_wayOf a0 x1 x2 h) (fun v2 h1 =>
  gR h1 a0 9 15 (fun a_3 =>
    gR h1 a0 9 14 (fun a_4 =>
      rdI h1 a_4 x1 (fun v5 =>
        rdI h1 a_3 (((400 : Int32) * x1) + v5) (fun v6 =>
          isO h1 a0 9 (bI (qM_stepsOf a0 x1 x2 h1) (fun v8 h7 =>
            qM_laysRun_34 LF a0 x1 v2 v6 v8 h7))))))))
-- LineDiagramModel.stepsTo(II)I
def qM_stepsTo (a0 : Nat) (x1 : Int32) (x2 : Int32) (h : XH) : XR :=
  gR h a0 9 14 (fun a_1 =>
  rdI h a_1 x1 (fun v2 =>
    isO h a0 9 (bI (qM_of a0 x1 (1 : Int32) h) (fun v4 h3 =>
      if (v4 - (1 : Int32)) = 0 then none else
        rI ((x2 * v2) / (v4 - (1 : Int32))) h3))))
-- LineDiagramModel.cellOf(II)I
def qM_cellOf (a0 : Nat) (x1 : Int32) (x2 : Int32) (h : XH) : XR :=
  gR h a0 9 15 (fun a_1 =>
  isO h a0 9 (bI (qM_stepsTo a0 x1 x2 h) (fun v3 h2 =>
    rdI h2 a_1 (((400 : Int32) * x1) + v3) (fun v4 =>
      rI v4 h2))))
-- LineDiagramModel.longOfStation(II)I
def qM_longOfStation (a0 : Nat) (x1 : Int32) (x2 : Int32) (h : XH) : XR :=
  isO h a0 9 (bI (qM_of a0 x1 (0 : Int32) h) (fun v2 h1 =>
  rI (v2 + (jrem x2 (3 : Int32))) h1))
-- LineDiagramModel.laysStations(I)V
def qM_laysStations_76 (k2 : Nat → Int32 → Int32 → XH → XR) (a0 : Nat) (x1 : Int32) (x2 : Int32) (s0 : Int32) (s1 : Int32) (s2 : Nat) (h : XH) : XR :=
  wrI h s2 s1 s0 (fun h1 =>
  k2 a0 x1 (x2 + (1 : Int32)) h1)
def qM_laysStations_2_b (k2 : Nat → Int32 → Int32 → XH → XR) (a0 : Nat) (x1 : Int32) (x2 : Int32) (h : XH) : XR :=
  isO h a0 9 (bI (qM_of a0 x1 (1 : Int32) h) (fun v2 h1 =>
  if x2 < v2 then
    (isO h1 a0 9 (bI (qM_cellOf a0 x1 x2 h1) (fun v4 h3 =>
      isO h3 a0 9 (bI (qM_longOfStation a0 x1 x2 h3) (fun v6 h5 =>
        gR h5 a0 9 18 (fun a_7 =>
          rdI h5 a_7 v4 (fun v8 =>
            wrI h5 a_7 v4 (v8 + (1 : Int32)) (fun h9 =>
              gR h9 a0 9 19 (fun a_10 =>
                rdI h9 a_10 v4 (fun v11 =>
                  wrI h9 a_10 v4 (v11 ||| (jshl (1 : Int32) x1)) (fun h12 =>
                    gR h12 a0 9 20 (fun a_13 =>
                      gR h12 a0 9 20 (fun a_14 =>
                        rdI h12 a_14 v4 (fun v15 =>
                        if v15 < v6 then
                        (qM_laysStations_76 k2 a0 x1 x2 v6 v4 a_13 h12)
                        else
                        gR h12 a0 9 20 (fun a_16 =>
                        rdI h12 a_16 v4 (fun v17 =>
                        qM_laysStations_76 k2 a0 x1 x2 v17 v4 a_13 h12))))))))))))))))
    else
    rV h1))
def qM_laysStations_2 : Nat → Nat → Int32 → Int32 → XH → XR
  | 0 => fun _ _ _ _ => none
  | n + 1 => qM_laysStations_2_b (qM_laysStations_2 n)
def qM_laysStations (a0 : Nat) (x1 : Int32) (h : XH) : XR :=
  qM_laysStations_2 LF a0 x1 (0 : Int32) h
