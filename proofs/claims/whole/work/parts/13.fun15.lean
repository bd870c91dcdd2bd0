-- LineDiagram.show(LLineDiagram$Plan;)V
def qD_show (a0 : Nat) (a1 : Nat) (h : XH) : XR :=
  gR h a0 8 3 (fun a_1 =>
  isO h a_1 5 (bV (qP_copyFrom a_1 a1 h) (fun h2 =>
    gR h2 a0 8 8 (fun a_3 =>
      gR h2 a0 8 3 (fun a_4 =>
        isO h2 a_3 0 (bV (qB_drawLines a_3 a_4 h2) (fun h5 =>
          gR h5 a0 8 3 (fun a_6 =>
            gR h5 a_6 5 5 (fun a_7 =>
              gR h5 a0 8 8 (fun a_8 =>
                isO h5 a_7 2 (bI (qLb_keepFitting a_7 a_8 h5) (fun v10 h9 =>
                  rV h9))))))))))))
-- LineDiagram.restore(I)I
def qD_restore (a0 : Nat) (x1 : Int32) (h : XH) : XR :=
  bI (qD_isSlot x1 h) (fun v2 h1 =>
  if v2 = (0 : Int32) then
    (rI (-1 : Int32) h1)
    else
    gR h1 a0 8 6 (fun a_3 =>
      rdB h1 a_3 x1 (fun v4 =>
        if v4 = (0 : Int32) then
          (rI (-2 : Int32) h1)
          else
          gR h1 a0 8 7 (fun a_5 =>
            gR h1 a0 8 3 (fun a_6 =>
              isO h1 a_5 1 (bV (qH_push a_5 a_6 h1) (fun h7 =>
                gR h7 a0 8 5 (fun a_8 =>
                  rdR h7 a_8 x1 (fun a_9 =>
                    isO h7 a0 8 (bV (qD_show a0 a_9 h7) (fun h10 =>
                      gR h10 a0 8 3 (fun a_11 =>
                        gR h10 a_11 5 5 (fun a_12 =>
                        gI h10 a_12 2 0 (fun v13 =>
                        rI v13 h10))))))))))))))
-- LineDiagramModel.restore(I)I
def qM_restore_61 (a0 : Nat) (h : XH) : XR :=
  isO h a0 9 (bI (qM_manyLabels a0 h) (fun v2 h1 =>
  rI v2 h1))
def qM_restore_30_b (k30 : Nat → Int32 → Int32 → XH → XR) (a0 : Nat) (x1 : Int32) (x2 : Int32) (h : XH) : XR :=
  if x2 < (1784 : Int32) then
  (gR h a0 9 8 (fun a_1 =>
    gR h a0 9 11 (fun a_2 =>
      rdI h a_2 (((1784 : Int32) * x1) + x2) (fun v3 =>
        wrI h a_1 x2 v3 (fun h4 =>
          k30 a0 x1 (x2 + (1 : Int32)) h4)))))
  else
  qM_restore_61 a0 h
def qM_restore_30 : Nat → Nat → Int32 → Int32 → XH → XR
  | 0 => fun _ _ _ _ => none
  | n + 1 => qM_restore_30_b (qM_restore_30 n)
def qM_restore (a0 : Nat) (x1 : Int32) (h : XH) : XR :=
  bI (qM_in (x1.toInt64) (0 : Int64) (1 : Int64) h) (fun v2 h1 =>
  if v2 = (0 : Int32) then
    (rI (-1 : Int32) h1)
    else
    gR h1 a0 9 12 (fun a_3 =>
      rdB h1 a_3 x1 (fun v4 =>
        if v4 = (0 : Int32) then
          (rI (-2 : Int32) h1)
          else
          isO h1 a0 9 (bV (qM_remembers a0 h1) (fun h5 =>
            qM_restore_30 LF a0 x1 (0 : Int32) h5)))))
-- LineDiagram$History.pop(LLineDiagram$Plan;)V
def qH_pop (a0 : Nat) (a1 : Nat) (h : XH) : XR :=
  gI h a0 1 0 (fun v1 =>
  if (0 : Int32) < v1 then
    (gI h a0 1 1 (fun v2 =>
      pV h a0 1 1 (.int (jrem ((v2 + (8 : Int32)) - (1 : Int32)) (8 : Int32))) (fun h3 =>
        gI h3 a0 1 0 (fun v4 =>
          pV h3 a0 1 0 (.int (v4 - (1 : Int32))) (fun h5 =>
            gR h5 a0 1 2 (fun a_6 =>
              gI h5 a0 1 1 (fun v7 =>
                rdR h5 a_6 v7 (fun a_8 =>
                  isO h5 a1 5 (bV (qP_copyFrom a1 a_8 h5) (fun h9 =>
                    rV h9))))))))))
    else
    rV h)
-- LineDiagram.undo()I
def qD_undo (a0 : Nat) (h : XH) : XR :=
  gR h a0 8 7 (fun a_1 =>
  gI h a_1 1 0 (fun v2 =>
    if (0 : Int32) < v2 then
      (gR h a0 8 7 (fun a_3 =>
        gR h a0 8 4 (fun a_4 =>
          isO h a_3 1 (bV (qH_pop a_3 a_4 h) (fun h5 =>
            gR h5 a0 8 4 (fun a_6 =>
              isO h5 a0 8 (bV (qD_show a0 a_6 h5) (fun h7 =>
                gR h7 a0 8 7 (fun a_8 =>
                  gI h7 a_8 1 0 (fun v9 =>
                    rI v9 h7))))))))))
      else
      rI (-1 : Int32) h))
-- LineDiagramModel.undo()I
def qM_undo_55 (a0 : Nat) (h : XH) : XR :=
  gI h a0 9 13 (fun v1 =>
  rI v1 h)
def qM_undo_21_b (k21 : Nat → Int32 → XH → XR) (a0 : Nat) (x1 : Int32) (h : XH) : XR :=
  if x1 < (1784 : Int32) then
  (gR h a0 9 8 (fun a_1 =>
    gR h a0 9 10 (fun a_2 =>
      gI h a0 9 13 (fun v3 =>
        rdI h a_2 (((1784 : Int32) * v3) + x1) (fun v4 =>
          wrI h a_1 x1 v4 (fun h5 =>
            k21 a0 (x1 + (1 : Int32)) h5))))))
  else
  qM_undo_55 a0 h
def qM_undo_21 : Nat → Nat → Int32 → XH → XR
  | 0 => fun _ _ _ => none
  | n + 1 => qM_undo_21_b (qM_undo_21 n)
def qM_undo (a0 : Nat) (h : XH) : XR :=
  gI h a0 9 13 (fun v1 =>
  if v1 = (0 : Int32) then
    (rI (-1 : Int32) h)
    else
    gI h a0 9 13 (fun v2 =>
      pV h a0 9 13 (.int (v2 - (1 : Int32))) (fun h3 =>
        qM_undo_21 LF a0 (0 : Int32) h3)))
-- LineDiagram$Plan.countStations()I
def qP_countStations_4_b (k4 : Nat → Int32 → Int32 → XH → XR) (a0 : Nat) (x1 : Int32) (x2 : Int32) (h : XH) : XR :=
  gI h a0 5 3 (fun v1 =>
  if x2 < v1 then
    (gR h a0 5 4 (fun a_2 =>
      rdR h a_2 x2 (fun a_3 =>
        gI h a_3 3 2 (fun v4 =>
          k4 a0 (x1 + v4) (x2 + (1 : Int32)) h))))
    else
    rI x1 h)
def qP_countStations_4 : Nat → Nat → Int32 → Int32 → XH → XR
  | 0 => fun _ _ _ _ => none
  | n + 1 => qP_countStations_4_b (qP_countStations_4 n)
def qP_countStations (a0 : Nat) (h : XH) : XR :=
  qP_countStations_4 LF a0 (0 : Int32) (0 : Int32) h
-- LineDiagram$Board.countMarked([I)I
def qB_countMarked_10_b (k10 : Int32 → Nat → Int32 → Int32 → XH → XR) (x1 : Int32) (a2 : Nat) (x3 : Int32) (x4 : Int32) (h : XH) : XR :=
  if x4 < x3 then
  (rdI h a2 x4 (fun v1 =>
    if v1 = (0 : Int32) then
      (k10 x1 a2 x3 (x4 + (1 : Int32)) h)
      else
      k10 (x1 + (1 : Int32)) a2 x3 (x4 + (1 : Int32)) h))
  else
  rI x1 h
def qB_countMarked_10 : Nat → Int32 → Nat → Int32 → Int32 → XH → XR
  | 0 => fun _ _ _ _ _ => none
  | n + 1 => qB_countMarked_10_b (qB_countMarked_10 n)
def qB_countMarked (a0 : Nat) (h : XH) : XR :=
  lnA h a0 (fun v1 =>
  qB_countMarked_10 LF (0 : Int32) a0 v1 (0 : Int32) h)
-- LineDiagram$Board.countPlaces()I
def qB_countPlaces (a0 : Nat) (h : XH) : XR :=
  gR h a0 0 4 (fun a_1 =>
  bI (qB_countMarked a_1 h) (fun v3 h2 =>
    rI v3 h2))
-- LineDiagram$Board.countLineCells()I
def qB_countLineCells (a0 : Nat) (h : XH) : XR :=
  gR h a0 0 2 (fun a_1 =>
  bI (qB_countMarked a_1 h) (fun v3 h2 =>
    rI v3 h2))
-- LineDiagram$Board.countLabelCells()I
def qB_countLabelCells (a0 : Nat) (h : XH) : XR :=
  gR h a0 0 7 (fun a_1 =>
  bI (qB_countMarked a_1 h) (fun v3 h2 =>
    rI v3 h2))
-- LineDiagram$Board.isOfTwo(I)Z
def qB_isOfTwo (x0 : Int32) (h : XH) : XR :=
  if (x0 &&& (x0 - (1 : Int32))) = (0 : Int32) then
  (rI (0 : Int32) h)
  else
  rI (1 : Int32) h
