-- LineDiagram$Board.nearestPlace(II)I
def qB_nearestPlace_10_b (k10 : Nat → Int32 → Int32 → Int32 → Int32 → Int32 → XH → XR) (a0 : Nat) (x1 : Int32) (x2 : Int32) (x3 : Int32) (x4 : Int32) (x5 : Int32) (h : XH) : XR :=
  if x5 < (1600 : Int32) then
  (gR h a0 0 4 (fun a_1 =>
    rdI h a_1 x5 (fun v2 =>
      if (0 : Int32) < v2 then
        (bI (qD_columnOf x5 h) (fun v4 h3 =>
          bI (qD_rowOf x5 h3) (fun v6 h5 =>
            if (jmax (jabs (v4 - x1)) (jabs (v6 - x2))) < x4 then
              (bI (qD_codeOf x5 h5) (fun v8 h7 =>
                k10 a0 x1 x2 v8 (jmax (jabs (v4 - x1)) (jabs (v6 - x2))) (x5 + (1 : Int32)) h7))
              else
              k10 a0 x1 x2 x3 x4 (x5 + (1 : Int32)) h5)))
        else
        k10 a0 x1 x2 x3 x4 (x5 + (1 : Int32)) h)))
  else
  rI x3 h
def qB_nearestPlace_10 : Nat → Nat → Int32 → Int32 → Int32 → Int32 → Int32 → XH → XR
  | 0 => fun _ _ _ _ _ _ _ => none
  | n + 1 => qB_nearestPlace_10_b (qB_nearestPlace_10 n)
def qB_nearestPlace (a0 : Nat) (x1 : Int32) (x2 : Int32) (h : XH) : XR :=
  qB_nearestPlace_10 LF a0 x1 x2 (-2 : Int32) (40 : Int32) (0 : Int32) h
-- LineDiagram.nearest(II)I
def qD_nearest (a0 : Nat) (x1 : Int32) (x2 : Int32) (h : XH) : XR :=
  isO h a0 8 (bI (qD_isCell a0 x1 x2 h) (fun v2 h1 =>
  if v2 = (0 : Int32) then
    (rI (-1 : Int32) h1)
    else
    gR h1 a0 8 8 (fun a_3 =>
      isO h1 a_3 0 (bI (qB_nearestPlace a_3 x1 x2 h1) (fun v5 h4 =>
        rI v5 h4)))))
-- LineDiagramModel.told(I)I
def qM_told (x0 : Int32) (h : XH) : XR :=
  if x0 < (0 : Int32) then
  (rI (-2 : Int32) h)
  else
  rI (((64 : Int32) * (x0 / (40 : Int32))) + (jrem x0 (40 : Int32))) h
-- LineDiagramModel.nearest(II)I
def qM_nearest_72 (k26 : Nat → Int32 → Int32 → Int32 → Int32 → Int32 → XH → XR) (a0 : Nat) (x1 : Int32) (x2 : Int32) (x3 : Int32) (x4 : Int32) (x5 : Int32) (s0 : Int32) (h : XH) : XR :=
  isO h a0 9 (bI (qM_isPlace a0 x5 h) (fun v2 h1 =>
  if v2 = (0 : Int32) then
    (k26 a0 x1 x2 x3 x4 (x5 + (1 : Int32)) h1)
    else
    if s0 < x4 then
      (k26 a0 x1 x2 x5 s0 (x5 + (1 : Int32)) h1)
      else
      k26 a0 x1 x2 x3 x4 (x5 + (1 : Int32)) h1))
def qM_nearest_103 (x3 : Int32) (h : XH) : XR :=
  bI (qM_told x3 h) (fun v2 h1 =>
  rI v2 h1)
def qM_nearest_26_b (k26 : Nat → Int32 → Int32 → Int32 → Int32 → Int32 → XH → XR) (a0 : Nat) (x1 : Int32) (x2 : Int32) (x3 : Int32) (x4 : Int32) (x5 : Int32) (h : XH) : XR :=
  if x5 < (1600 : Int32) then
  (bI (qM_size ((jrem x5 (40 : Int32)) - x1) h) (fun v2 h1 =>
    bI (qM_size ((x5 / (40 : Int32)) - x2) h1) (fun v4 h3 =>
      if v4 < v2 then
        (qM_nearest_72 k26 a0 x1 x2 x3 x4 x5 v2 h3)
        else
        qM_nearest_72 k26 a0 x1 x2 x3 x4 x5 v4 h3)))
  else
  qM_nearest_103 x3 h
def qM_nearest_26 : Nat → Nat → Int32 → Int32 → Int32 → Int32 → Int32 → XH → XR
  | 0 => fun _ _ _ _ _ _ _ => none
  | n + 1 => qM_nearest_26_b (qM_nearest_26 n)
def qM_nearest (a0 : Nat) (x1 : Int32) (x2 : Int32) (h : XH) : XR :=
  isO h a0 9 (bI (qM_isCell a0 x1 x2 h) (fun v2 h1 =>
  if v2 = (0 : Int32) then
    (rI (-1 : Int32) h1)
    else
    isO h1 a0 9 (bV (qM_lays a0 h1) (fun h3 =>
      qM_nearest_26 LF a0 x1 x2 (-2 : Int32) (1000000 : Int32) (0 : Int32) h3))))
-- LineDiagram$Board.countOfTwo([II)I
def qB_countOfTwo_11_b (k11 : Int32 → Int32 → Nat → Int32 → Int32 → XH → XR) (x1 : Int32) (x2 : Int32) (a3 : Nat) (x4 : Int32) (x5 : Int32) (h : XH) : XR :=
  if x5 < x4 then
  (rdI h a3 x5 (fun v1 =>
    bI (qB_isOfTwo (v1 &&& x1) h) (fun v3 h2 =>
      if v3 = (0 : Int32) then
        (k11 x1 x2 a3 x4 (x5 + (1 : Int32)) h2)
        else
        k11 x1 (x2 + (1 : Int32)) a3 x4 (x5 + (1 : Int32)) h2)))
  else
  rI x2 h
def qB_countOfTwo_11 : Nat → Int32 → Int32 → Nat → Int32 → Int32 → XH → XR
  | 0 => fun _ _ _ _ _ _ => none
  | n + 1 => qB_countOfTwo_11_b (qB_countOfTwo_11 n)
def qB_countOfTwo (a0 : Nat) (x1 : Int32) (h : XH) : XR :=
  lnA h a0 (fun v1 =>
  qB_countOfTwo_11 LF x1 (0 : Int32) a0 v1 (0 : Int32) h)
-- LineDiagram$Board.countShared(I)I
def qB_countShared (a0 : Nat) (x1 : Int32) (h : XH) : XR :=
  gR h a0 0 2 (fun a_1 =>
  bI (qB_countOfTwo a_1 x1 h) (fun v3 h2 =>
    rI v3 h2))
-- LineDiagram$Board.countSharedPlaces(I)I
def qB_countSharedPlaces (a0 : Nat) (x1 : Int32) (h : XH) : XR :=
  gR h a0 0 5 (fun a_1 =>
  bI (qB_countOfTwo a_1 x1 h) (fun v3 h2 =>
    rI v3 h2))
-- LineDiagram.both(III)I
def qD_both (a0 : Nat) (x1 : Int32) (x2 : Int32) (x3 : Int32) (h : XH) : XR :=
  isO h a0 8 (bI (qD_isLine a0 x1 h) (fun v2 h1 =>
  if v2 = (0 : Int32) then
    (rI (-1 : Int32) h1)
    else
    isO h1 a0 8 (bI (qD_isLine a0 x2 h1) (fun v4 h3 =>
      if v4 = (0 : Int32) then
        (rI (-1 : Int32) h3)
        else
        if x1 = x2 then
          (rI (-1 : Int32) h3)
          else
          if x3 = (0 : Int32) then (gR h3 a0 8 8 (fun a_5 =>
              isO h3 a_5 0 (bI (qB_countShared a_5 ((jshl (1 : Int32) x1) ||| (jshl (1 : Int32) x2)) h3) (fun v7 h6 =>
                rI v7 h6)))) else
            if x3 = (1 : Int32) then (gR h3 a0 8 8 (fun a_8 =>
              isO h3 a_8 0 (bI (qB_countSharedPlaces a_8 ((jshl (1 : Int32) x1) ||| (jshl (1 : Int32) x2)) h3) (fun v10 h9 =>
                rI v10 h9)))) else
            if x3 = (2 : Int32) then (gR h3 a0 8 8 (fun a_11 =>
              isO h3 a_11 0 (bI (qB_countCrossings a_11 ((jshl (1 : Int32) x1) ||| (jshl (1 : Int32) x2)) h3) (fun v13 h12 =>
                rI v13 h12)))) else
            if x3 = (3 : Int32) then (gR h3 a0 8 8 (fun a_14 =>
              isO h3 a_14 0 (bI (qB_countBetween a_14 ((jshl (1 : Int32) x1) ||| (jshl (1 : Int32) x2)) h3) (fun v16 h15 =>
                rI v16 h15)))) else
            if x3 = (4 : Int32) then (gR h3 a0 8 8 (fun a_17 =>
              isO h3 a_17 0 (bI (qB_countSideBySide a_17 ((jshl (1 : Int32) x1) ||| (jshl (1 : Int32) x2)) h3) (fun v19 h18 =>
                rI v19 h18)))) else
            rI (-1 : Int32) h3))))
-- LineDiagramModel.cellsOfBoth(II)I
def qM_cellsOfBoth_80 (k5 : Nat → Int32 → Int32 → Int32 → Int32 → XH → XR) (a0 : Nat) (x1 : Int32) (x2 : Int32) (x4 : Int32) (s0 : Int32) (h : XH) : XR :=
  k5 a0 x1 x2 (s0 + (1 : Int32)) (x4 + (1 : Int32)) h
def qM_cellsOfBoth_84 (k5 : Nat → Int32 → Int32 → Int32 → Int32 → XH → XR) (a0 : Nat) (x1 : Int32) (x2 : Int32) (x4 : Int32) (s0 : Int32) (h : XH) : XR :=
  k5 a0 x1 x2 (s0 + (0 : Int32)) (x4 + (1 : Int32)) h
def qM_cellsOfBoth_61 (k5 : Nat → Int32 → Int32 → Int32 → Int32 → XH → XR) (a0 : Nat) (x1 : Int32) (x2 : Int32) (x4 : Int32) (x5 : Int32) (s0 : Int32) (h : XH) : XR :=
  if x2 = (2 : Int32) then
  (if x5 = (0 : Int32) then
    (qM_cellsOfBoth_84 k5 a0 x1 x2 x4 s0 h)
    else
    isO h a0 9 (bI (qM_isPlace a0 x4 h) (fun v2 h1 =>
      if v2 = (0 : Int32) then
        (qM_cellsOfBoth_80 k5 a0 x1 x2 x4 s0 h1)
        else
        qM_cellsOfBoth_84 k5 a0 x1 x2 x4 s0 h1)))
  else
  qM_cellsOfBoth_84 k5 a0 x1 x2 x4 s0 h
def qM_cellsOfBoth_43 (k5 : Nat → Int32 → Int32 → Int32 → Int32 → XH → XR) (a0 : Nat) (x1 : Int32) (x2 : Int32) (x4 : Int32) (x5 : Int32) (s0 : Int32) (h : XH) : XR :=
  if x2 = (1 : Int32) then
  (gR h a0 9 19 (fun a_1 =>
    rdI h a_1 x4 (fun v2 =>
      if (v2 &&& x1) = x1 then
        (qM_cellsOfBoth_80 k5 a0 x1 x2 x4 s0 h)
        else
        qM_cellsOfBoth_61 k5 a0 x1 x2 x4 x5 s0 h)))
  else
  qM_cellsOfBoth_61 k5 a0 x1 x2 x4 x5 s0 h
def qM_cellsOfBoth_31 (k5 : Nat → Int32 → Int32 → Int32 → Int32 → XH → XR) (a0 : Nat) (x1 : Int32) (x2 : Int32) (x3 : Int32) (x4 : Int32) (s0 : Int32) (h : XH) : XR :=
  if x2 = (0 : Int32) then
  (if s0 = (0 : Int32) then
    (qM_cellsOfBoth_43 k5 a0 x1 x2 x4 s0 x3 h)
    else
    qM_cellsOfBoth_80 k5 a0 x1 x2 x4 x3 h)
  else
  qM_cellsOfBoth_43 k5 a0 x1 x2 x4 s0 x3 h
def qM_cellsOfBoth_5_b (k5 : Nat → Int32 → Int32 → Int32 → Int32 → XH → XR) (a0 : Nat) (x1 : Int32) (x2 : Int32) (x3 : Int32) (x4 : Int32) (h : XH) : XR :=
  if x4 < (1600 : Int32) then
  (gR h a0 9 16 (fun a_1 =>
    rdI h a_1 x4 (fun v2 =>
      if (v2 &&& x1) = x1 then
        (qM_cellsOfBoth_31 k5 a0 x1 x2 x3 x4 (1 : Int32) h)
        else
        qM_cellsOfBoth_31 k5 a0 x1 x2 x3 x4 (0 : Int32) h)))
  else
  rI x3 h
def qM_cellsOfBoth_5 : Nat → Nat → Int32 → Int32 → Int32 → Int32 → XH → XR
  | 0 => fun _ _ _ _ _ _ => none
  | n + 1 => qM_cellsOfBoth_5_b (qM_cellsOfBoth_5 n)
def qM_cellsOfBoth (a0 : Nat) (x1 : Int32) (x2 : Int32) (h : XH) : XR :=
  qM_cellsOfBoth_5 LF a0 x1 x2 (0 : Int32) (0 : Int32) h
-- LineDiagramModel.both(III)I
def qM_both (a0 : Nat) (x1 : Int32) (x2 : Int32) (x3 : Int32) (h : XH) : XR :=
  isO h a0 9 (bI (qM_isLine a0 x1 h) (fun v2 h1 =>
  if v2 = (0 : Int32) then
    (rI (-1 : Int32) h1)
    else
    isO h1 a0 9 (bI (qM_isLine a0 x2 h1) (fun v4 h3 =>
      if v4 = (0 : Int32) then
        (rI (-1 : Int32) h3)
        else
        if x1 = x2 then
          (rI (-1 : Int32) h3)
          else
          bI (qM_in (x3.toInt64) (0 : Int64) (4 : Int64) h3) (fun v6 h5 =>
            if v6 = (0 : Int32) then
              (rI (-1 : Int32) h5)
              else
              isO h5 a0 9 (bV (qM_lays a0 h5) (fun h7 =>
                if x3 < (3 : Int32) then
                  (isO h7 a0 9 (bI (qM_cellsOfBoth a0 ((jshl (1 : Int32) x1) ||| (jshl (1 : Int32) x2)) x3 h7) (fun v13 h12 =>
                    rI v13 h12)))
                  else
                  if x3 = (3 : Int32) then
                    (isO h7 a0 9 (bI (qM_between a0 x1 x2 h7) (fun v11 h10 =>
                      rI v11 h10)))
                    else
                    isO h7 a0 9 (bI (qM_sideBySide a0 x1 x2 h7) (fun v9 h8 =>
                      rI v9 h8)))))))))
-- LineDiagram$Board.crossingOf(I)I
def qB_crossingOf_27 (x3 : Int32) (h : XH) : XR :=
  bI (qD_codeOf x3 h) (fun v2 h1 =>
  rI v2 h1)
def qB_crossingOf_4_b (k4 : Nat → Int32 → Int32 → Int32 → XH → XR) (a0 : Nat) (x1 : Int32) (x2 : Int32) (x3 : Int32) (h : XH) : XR :=
  if x3 < (1600 : Int32) then
  (isO h a0 0 (bI (qB_isCrossing a0 x3 (255 : Int32) h) (fun v2 h1 =>
    if v2 = (0 : Int32) then
      (k4 a0 x1 x2 (x3 + (1 : Int32)) h1)
      else
      if x2 = x1 then
        (qB_crossingOf_27 x3 h1)
        else
        k4 a0 x1 (x2 + (1 : Int32)) (x3 + (1 : Int32)) h1)))
  else
  rI (-2 : Int32) h
def qB_crossingOf_4 : Nat → Nat → Int32 → Int32 → Int32 → XH → XR
  | 0 => fun _ _ _ _ _ => none
  | n + 1 => qB_crossingOf_4_b (qB_crossingOf_4 n)
def qB_crossingOf (a0 : Nat) (x1 : Int32) (h : XH) : XR :=
  qB_crossingOf_4 LF a0 x1 (0 : Int32) (0 : Int32) h
-- LineDiagram.crossing(I)I
def qD_crossing (a0 : Nat) (x1 : Int32) (h : XH) : XR :=
  if x1 < (0 : Int32) then
  (rI (-1 : Int32) h)
  else
  gR h a0 8 8 (fun a_1 =>
    isO h a_1 0 (bI (qB_crossingOf a_1 x1 h) (fun v3 h2 =>
      rI v3 h2)))
