-- LineDiagram$Board.isCrossing(II)Z
def qB_isCrossing (a0 : Nat) (x1 : Int32) (x2 : Int32) (h : XH) : XR :=
  gR h a0 0 4 (fun a_1 =>
  rdI h a_1 x1 (fun v2 =>
    if v2 = (0 : Int32) then
      (gR h a0 0 2 (fun a_3 =>
        rdI h a_3 x1 (fun v4 =>
          bI (qB_isOfTwo (v4 &&& x2) h) (fun v6 h5 =>
            if v6 = (0 : Int32) then
              (rI (0 : Int32) h5)
              else
              rI (1 : Int32) h5))))
      else
      rI (0 : Int32) h))
-- LineDiagram$Board.countCrossings(I)I
def qB_countCrossings_4_b (k4 : Nat → Int32 → Int32 → Int32 → XH → XR) (a0 : Nat) (x1 : Int32) (x2 : Int32) (x3 : Int32) (h : XH) : XR :=
  if x3 < (1600 : Int32) then
  (isO h a0 0 (bI (qB_isCrossing a0 x3 x1 h) (fun v2 h1 =>
    if v2 = (0 : Int32) then
      (k4 a0 x1 x2 (x3 + (1 : Int32)) h1)
      else
      k4 a0 x1 (x2 + (1 : Int32)) (x3 + (1 : Int32)) h1)))
  else
  rI x2 h
def qB_countCrossings_4 : Nat → Nat → Int32 → Int32 → Int32 → XH → XR
  | 0 => fun _ _ _ _ _ => none
  | n + 1 => qB_countCrossings_4_b (qB_countCrossings_4 n)
def qB_countCrossings (a0 : Nat) (x1 : Int32) (h : XH) : XR :=
  qB_countCrossings_4 LF a0 x1 (0 : Int32) (0 : Int32) h
-- LineDiagram$Board.stepMask(II)I
def qB_stepMask (a0 : Nat) (x1 : Int32) (x2 : Int32) (h : XH) : XR :=
  gR h a0 0 3 (fun a_1 =>
  rdI h a_1 x1 (fun v2 =>
    rI ((jushr v2 ((8 : Int32) * x2)) &&& (255 : Int32)) h))
-- java/lang/Integer.bitCount(I)I
def qJI_bitCount (x0 : Int32) (h : XH) : XR :=
  rI ((((((((x0 - ((jushr x0 (1 : Int32)) &&& (1431655765 : Int32))) &&& (858993459 : Int32)) + ((jushr (x0 - ((jushr x0 (1 : Int32)) &&& (1431655765 : Int32))) (2 : Int32)) &&& (858993459 : Int32))) + (jushr (((x0 - ((jushr x0 (1 : Int32)) &&& (1431655765 : Int32))) &&& (858993459 : Int32)) + ((jushr (x0 - ((jushr x0 (1 : Int32)) &&& (1431655765 : Int32))) (2 : Int32)) &&& (858993459 : Int32))) (4 : Int32))) &&& (252645135 : Int32)) + (jushr (((((x0 - ((jushr x0 (1 : Int32)) &&& (1431655765 : Int32))) &&& (858993459 : Int32)) + ((jushr (x0 - ((jushr x0 (1 : Int32)) &&& (1431655765 : Int32))) (2 : Int32)) &&& (858993459 : Int32))) + (jushr (((x0 - ((jushr x0 (1 : Int32)) &&& (1431655765 : Int32))) &&& (858993459 : Int32)) + ((jushr (x0 - ((jushr x0 (1 : Int32)) &&& (1431655765 : Int32))) (2 : Int32)) &&& (858993459 : Int32))) (4 : Int32))) &&& (252645135 : Int32)) (8 : Int32))) + (jushr ((((((x0 - ((jushr x0 (1 : Int32)) &&& (1431655765 : Int32))) &&& (858993459 : Int32)) + ((jushr (x0 - ((jushr x0 (1 : Int32)) &&& (1431655765 : Int32))) (2 : Int32)) &&& (858993459 : Int32))) + (jushr (((x0 - ((jushr x0 (1 : Int32)) &&& (1431655765 : Int32))) &&& (858993459 : Int32)) + ((jushr (x0 - ((jushr x0 (1 : Int32)) &&& (1431655765 : Int32))) (2 : Int32)) &&& (858993459 : Int32))) (4 : Int32))) &&& (252645135 : Int32)) + (jushr (((((x0 - ((jushr x0 (1 : Int32)) &&& (1431655765 : Int32))) &&& (858993459 : Int32)) + ((jushr (x0 - ((jushr x0 (1 : Int32)) &&& (1431655765 : Int32))) (2 : Int32)) &&& (858993459 : Int32))) + (jushr (((x0 - ((jushr x0 (1 : Int32)) &&& (1431655765 : Int32))) &&& (858993459 : Int32)) + ((jushr (x0 - ((jushr x0 (1 : Int32)) &&& (1431655765 : Int32))) (2 : Int32)) &&& (858993459 : Int32))) (4 : Int32))) &&& (252645135 : Int32)) (8 : Int32))) (16 : Int32))) &&& (63 : Int32)) h
-- LineDiagram$Board.countPairs(II)I
def qB_countPairs (x0 : Int32) (x1 : Int32) (h : XH) : XR :=
  bI (qJI_bitCount (x0 &&& x1) h) (fun v2 h1 =>
  bI (qJI_bitCount x0 h1) (fun v4 h3 =>
    bI (qJI_bitCount x1 h3) (fun v6 h5 =>
      rI (((v4 * v6) - v2) - ((v2 * (v2 - (1 : Int32))) / (2 : Int32))) h5)))
-- LineDiagram$Board.countBetween(I)I
def qB_countBetween_4_b (k4 : Nat → Int32 → Int32 → Int32 → XH → XR) (a0 : Nat) (x1 : Int32) (x2 : Int32) (x3 : Int32) (h : XH) : XR :=
  if x3 < (1599 : Int32) then
  (isO h a0 0 (bI (qB_stepMask a0 x3 (1 : Int32) h) (fun v2 h1 =>
    if (v2 &&& x1) = (0 : Int32) then
      (k4 a0 x1 x2 (x3 + (1 : Int32)) h1)
      else
      isO h1 a0 0 (bI (qB_stepMask a0 (x3 + (1 : Int32)) (3 : Int32) h1) (fun v4 h3 =>
        bI (qB_countPairs (v2 &&& x1) (v4 &&& x1) h3) (fun v6 h5 =>
          k4 a0 x1 (x2 + v6) (x3 + (1 : Int32)) h5))))))
  else
  rI x2 h
def qB_countBetween_4 : Nat → Nat → Int32 → Int32 → Int32 → XH → XR
  | 0 => fun _ _ _ _ _ => none
  | n + 1 => qB_countBetween_4_b (qB_countBetween_4 n)
def qB_countBetween (a0 : Nat) (x1 : Int32) (h : XH) : XR :=
  qB_countBetween_4 LF a0 x1 (0 : Int32) (0 : Int32) h
-- LineDiagram$Board.countSideBySide(I)I
def qB_countSideBySide_14_b (k4 : Nat → Int32 → Int32 → Int32 → XH → XR) (k14 : Nat → Int32 → Int32 → Int32 → Int32 → XH → XR) (a0 : Nat) (x1 : Int32) (x2 : Int32) (x3 : Int32) (x4 : Int32) (h : XH) : XR :=
  gR h a0 0 3 (fun a_1 =>
  rdI h a_1 x3 (fun v2 =>
    if v2 = (0 : Int32) then
      (k4 a0 x1 x2 (x3 + (1 : Int32)) h)
      else
      if x4 < (4 : Int32) then
        (isO h a0 0 (bI (qB_stepMask a0 x3 x4 h) (fun v4 h3 =>
          bI (qJI_bitCount (v4 &&& x1) h3) (fun v6 h5 =>
            k14 a0 x1 (x2 + ((v6 * (v6 - (1 : Int32))) / (2 : Int32))) x3 (x4 + (1 : Int32)) h5))))
        else
        k4 a0 x1 x2 (x3 + (1 : Int32)) h))
def qB_countSideBySide_14 (k4 : Nat → Int32 → Int32 → Int32 → XH → XR) : Nat → Nat → Int32 → Int32 → Int32 → Int32 → XH → XR
  | 0 => fun _ _ _ _ _ _ => none
  | n + 1 => qB_countSideBySide_14_b k4 (qB_countSideBySide_14 k4 n)
def qB_countSideBySide_4_b (k4 : Nat → Int32 → Int32 → Int32 → XH → XR) (a0 : Nat) (x1 : Int32) (x2 : Int32) (x3 : Int32) (h : XH) : XR :=
  if x3 < (1600 : Int32) then
  (qB_countSideBySide_14 k4 LF a0 x1 x2 x3 (0 : Int32) h)
  else
  rI x2 h
def qB_countSideBySide_4 : Nat → Nat → Int32 → Int32 → Int32 → XH → XR
  | 0 => fun _ _ _ _ _ => none
  | n + 1 => qB_countSideBySide_4_b (qB_countSideBySide_4 n)
def qB_countSideBySide (a0 : Nat) (x1 : Int32) (h : XH) : XR :=
  qB_countSideBySide_4 LF a0 x1 (0 : Int32) (0 : Int32) h
-- LineDiagram.value(I)I
def qD_value (a0 : Nat) (x1 : Int32) (h : XH) : XR :=
  if x1 = (0 : Int32) then (gR h a0 8 3 (fun a_1 =>
    gI h a_1 5 0 (fun v2 =>
      rI v2 h))) else
  if x1 = (1 : Int32) then (gR h a0 8 3 (fun a_3 =>
    gI h a_3 5 1 (fun v4 =>
      rI v4 h))) else
  if x1 = (2 : Int32) then (gR h a0 8 3 (fun a_5 =>
    gI h a_5 5 2 (fun v6 =>
      rI v6 h))) else
  if x1 = (3 : Int32) then (gR h a0 8 3 (fun a_7 =>
    gI h a_7 5 3 (fun v8 =>
      rI v8 h))) else
  if x1 = (4 : Int32) then (gR h a0 8 3 (fun a_9 =>
    isO h a_9 5 (bI (qP_countStations a_9 h) (fun v11 h10 =>
      rI v11 h10)))) else
  if x1 = (5 : Int32) then (gR h a0 8 8 (fun a_12 =>
    isO h a_12 0 (bI (qB_countPlaces a_12 h) (fun v14 h13 =>
      rI v14 h13)))) else
  if x1 = (6 : Int32) then (gR h a0 8 3 (fun a_15 =>
    gR h a_15 5 5 (fun a_16 =>
      gI h a_16 2 0 (fun v17 =>
        rI v17 h)))) else
  if x1 = (7 : Int32) then (gR h a0 8 8 (fun a_18 =>
    isO h a_18 0 (bI (qB_countLineCells a_18 h) (fun v20 h19 =>
      rI v20 h19)))) else
  if x1 = (8 : Int32) then (gR h a0 8 8 (fun a_21 =>
    isO h a_21 0 (bI (qB_countLabelCells a_21 h) (fun v23 h22 =>
      rI v23 h22)))) else
  if x1 = (9 : Int32) then (gR h a0 8 8 (fun a_24 =>
    isO h a_24 0 (bI (qB_countCrossings a_24 (255 : Int32) h) (fun v26 h25 =>
      rI v26 h25)))) else
  if x1 = (10 : Int32) then (gR h a0 8 8 (fun a_27 =>
    isO h a_27 0 (bI (qB_countBetween a_27 (255 : Int32) h) (fun v29 h28 =>
      rI v29 h28)))) else
  if x1 = (11 : Int32) then (gR h a0 8 8 (fun a_30 =>
    isO h a_30 0 (bI (qB_countSideBySide a_30 (255 : Int32) h) (fun v32 h31 =>
      rI v32 h31)))) else
  rI (-1 : Int32) h
-- LineDiagramModel.allStops()I
def qM_allStops_4_b (k4 : Nat → Int32 → Int32 → XH → XR) (a0 : Nat) (x1 : Int32) (x2 : Int32) (h : XH) : XR :=
  gI h a0 9 6 (fun v1 =>
  if x2 < v1 then
    (isO h a0 9 (bI (qM_of a0 x2 (1 : Int32) h) (fun v3 h2 =>
      k4 a0 (x1 + v3) (x2 + (1 : Int32)) h2)))
    else
    rI x1 h)
def qM_allStops_4 : Nat → Nat → Int32 → Int32 → XH → XR
  | 0 => fun _ _ _ _ => none
  | n + 1 => qM_allStops_4_b (qM_allStops_4 n)
def qM_allStops (a0 : Nat) (h : XH) : XR :=
  qM_allStops_4 LF a0 (0 : Int32) (0 : Int32) h
-- LineDiagramModel.sortOf(I)I
def qM_sortOf (a0 : Nat) (x1 : Int32) (h : XH) : XR :=
  isO h a0 9 (bI (qM_isPlace a0 x1 h) (fun v2 h1 =>
  if v2 = (0 : Int32) then
    (gR h1 a0 9 16 (fun a_3 =>
      rdI h1 a_3 x1 (fun v4 =>
        if v4 = (0 : Int32) then
          (gR h1 a0 9 21 (fun a_5 =>
            rdI h1 a_5 x1 (fun v6 =>
              if v6 < (0 : Int32) then
                (rI (0 : Int32) h1)
                else
                rI (1 : Int32) h1)))
          else
          rI (2 : Int32) h1)))
    else
    rI (3 : Int32) h1))
-- LineDiagramModel.cellsOf(I)I
def qM_cellsOf_4_b (k4 : Nat → Int32 → Int32 → Int32 → XH → XR) (a0 : Nat) (x1 : Int32) (x2 : Int32) (x3 : Int32) (h : XH) : XR :=
  if x3 < (1600 : Int32) then
  (isO h a0 9 (bI (qM_sortOf a0 x3 h) (fun v2 h1 =>
    if v2 = x1 then
      (k4 a0 x1 (x2 + (1 : Int32)) (x3 + (1 : Int32)) h1)
      else
      k4 a0 x1 (x2 + (0 : Int32)) (x3 + (1 : Int32)) h1)))
  else
  rI x2 h
def qM_cellsOf_4 : Nat → Nat → Int32 → Int32 → Int32 → XH → XR
  | 0 => fun _ _ _ _ _ => none
  | n + 1 => qM_cellsOf_4_b (qM_cellsOf_4 n)
def qM_cellsOf (a0 : Nat) (x1 : Int32) (h : XH) : XR :=
  qM_cellsOf_4 LF a0 x1 (0 : Int32) (0 : Int32) h
-- LineDiagramModel.ones(I)I
def qM_ones_4_b (k4 : Int32 → Int32 → XH → XR) (x1 : Int32) (x2 : Int32) (h : XH) : XR :=
  if x2 = (0 : Int32) then
  (rI x1 h)
  else
  k4 (x1 + (1 : Int32)) (x2 &&& (x2 - (1 : Int32))) h
def qM_ones_4 : Nat → Int32 → Int32 → XH → XR
  | 0 => fun _ _ _ => none
  | n + 1 => qM_ones_4_b (qM_ones_4 n)
def qM_ones (x0 : Int32) (h : XH) : XR :=
  qM_ones_4 LF (0 : Int32) x0 h
