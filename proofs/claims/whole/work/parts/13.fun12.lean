-- LineDiagramModel.setSize(II)I
def qM_setSize (a0 : Nat) (x1 : Int32) (x2 : Int32) (h : XH) : XR :=
  isO h a0 9 (bI (qM_isLine a0 x1 h) (fun v2 h1 =>
  if v2 = (0 : Int32) then
    (rI (-1 : Int32) h1)
    else
    bI (qM_in (x2.toInt64) (1 : Int64) (10 : Int64) h1) (fun v4 h3 =>
      if v4 = (0 : Int32) then
        (rI (-1 : Int32) h3)
        else
        isO h3 a0 9 (bI (qM_becomes a0 x1 (0 : Int32) x2 h3) (fun v6 h5 =>
          rI v6 h5)))))
-- LineDiagram.isStation(II)Z
def qD_isStation (a0 : Nat) (x1 : Int32) (x2 : Int32) (h : XH) : XR :=
  isO h a0 8 (bI (qD_isLine a0 x1 h) (fun v2 h1 =>
  if v2 = (0 : Int32) then
    (rI (0 : Int32) h1)
    else
    if x2 < (0 : Int32) then
      (rI (0 : Int32) h1)
      else
      gR h1 a0 8 3 (fun a_3 =>
        gR h1 a_3 5 4 (fun a_4 =>
          rdR h1 a_4 x1 (fun a_5 =>
            gI h1 a_5 3 2 (fun v6 =>
              if x2 < v6 then
                (rI (1 : Int32) h1)
                else
                rI (0 : Int32) h1))))))
-- LineDiagram.isPosition(I)Z
def qD_isPosition (x0 : Int32) (h : XH) : XR :=
  if x0 < (0 : Int32) then
  (rI (0 : Int32) h)
  else
  if x0 < (8 : Int32) then
    (rI (1 : Int32) h)
    else
    rI (0 : Int32) h
-- LineDiagram$Board.stationCell(II)I
def qB_stationCell (a0 : Nat) (x1 : Int32) (x2 : Int32) (h : XH) : XR :=
  if ((x1 * (20 : Int32)) + x2) < (0 : Int32) then
  (rI (0 : Int32) h)
  else
  gR h a0 0 8 (fun a_1 =>
    lnA h a_1 (fun v2 =>
      if ((x1 * (20 : Int32)) + x2) < v2 then
        (gR h a0 0 8 (fun a_3 =>
          rdI h a_3 ((x1 * (20 : Int32)) + x2) (fun v4 =>
            rI v4 h)))
        else
        rI (0 : Int32) h))
-- LineDiagram$Labels.rankOf(I)I
def qLb_rankOf_2_b (k2 : Nat → Int32 → Int32 → XH → XR) (a0 : Nat) (x1 : Int32) (x2 : Int32) (h : XH) : XR :=
  gI h a0 2 0 (fun v1 =>
  if x2 < v1 then
    (gR h a0 2 1 (fun a_2 =>
      rdI h a_2 x2 (fun v3 =>
        if v3 < x1 then
          (k2 a0 x1 (x2 + (1 : Int32)) h)
          else
          rI x2 h)))
    else
    rI x2 h)
def qLb_rankOf_2 : Nat → Nat → Int32 → Int32 → XH → XR
  | 0 => fun _ _ _ _ => none
  | n + 1 => qLb_rankOf_2_b (qLb_rankOf_2 n)
def qLb_rankOf (a0 : Nat) (x1 : Int32) (h : XH) : XR :=
  qLb_rankOf_2 LF a0 x1 (0 : Int32) h
-- LineDiagram$Labels.positionOf(I)I
def qLb_positionOf (a0 : Nat) (x1 : Int32) (h : XH) : XR :=
  isO h a0 2 (bI (qLb_rankOf a0 x1 h) (fun v2 h1 =>
  gI h1 a0 2 0 (fun v3 =>
    if v2 < v3 then
      (gR h1 a0 2 1 (fun a_4 =>
        rdI h1 a_4 v2 (fun v5 =>
          if v5 = x1 then
            (gR h1 a0 2 2 (fun a_6 =>
              rdI h1 a_6 v2 (fun v7 =>
                rI v7 h1)))
            else
            rI (-2 : Int32) h1)))
      else
      rI (-2 : Int32) h1)))
-- LineDiagram$Labels.drop(I)V
def qLb_drop_37_b (k37 : Nat → Int32 → XH → XR) (a0 : Nat) (x3 : Int32) (h : XH) : XR :=
  gI h a0 2 0 (fun v1 =>
  if x3 < v1 then
    (gR h a0 2 1 (fun a_2 =>
      gR h a0 2 1 (fun a_3 =>
        rdI h a_3 (x3 + (1 : Int32)) (fun v4 =>
          wrI h a_2 x3 v4 (fun h5 =>
            gR h5 a0 2 2 (fun a_6 =>
              gR h5 a0 2 2 (fun a_7 =>
                rdI h5 a_7 (x3 + (1 : Int32)) (fun v8 =>
                  wrI h5 a_6 x3 v8 (fun h9 =>
                    k37 a0 (x3 + (1 : Int32)) h9)))))))))
    else
    rV h)
def qLb_drop_37 : Nat → Nat → Int32 → XH → XR
  | 0 => fun _ _ _ => none
  | n + 1 => qLb_drop_37_b (qLb_drop_37 n)
def qLb_drop (a0 : Nat) (x1 : Int32) (h : XH) : XR :=
  isO h a0 2 (bI (qLb_rankOf a0 x1 h) (fun v2 h1 =>
  gI h1 a0 2 0 (fun v3 =>
    if v2 < v3 then
      (gR h1 a0 2 1 (fun a_4 =>
        rdI h1 a_4 v2 (fun v5 =>
          if v5 = x1 then
            (gI h1 a0 2 0 (fun v6 =>
              pV h1 a0 2 0 (.int (v6 - (1 : Int32))) (fun h7 =>
                qLb_drop_37 LF a0 v2 h7)))
            else
            rV h1)))
      else
      rV h1)))
-- LineDiagram.takeLabel(I)V
def qD_takeLabel (a0 : Nat) (x1 : Int32) (h : XH) : XR :=
  gR h a0 8 3 (fun a_1 =>
  gR h a_1 5 5 (fun a_2 =>
    isO h a_2 2 (bI (qLb_positionOf a_2 x1 h) (fun v4 h3 =>
      if v4 < (0 : Int32) then
        (rV h3)
        else
        gR h3 a0 8 3 (fun a_5 =>
          gR h3 a_5 5 5 (fun a_6 =>
            isO h3 a_6 2 (bV (qLb_drop a_6 x1 h3) (fun h7 =>
              gR h7 a0 8 8 (fun a_8 =>
                isO h7 a_8 0 (bV (qB_paint a_8 x1 v4 (0 : Int32) h7) (fun h9 =>
                  rV h9)))))))))))
-- LineDiagram$Labels.put(II)V
def qLb_put_67 (a0 : Nat) (x1 : Int32) (x2 : Int32) (x3 : Int32) (h : XH) : XR :=
  gR h a0 2 1 (fun a_1 =>
  wrI h a_1 x3 x1 (fun h2 =>
    gR h2 a0 2 2 (fun a_3 =>
      wrI h2 a_3 x3 x2 (fun h4 =>
        gI h4 a0 2 0 (fun v5 =>
          pV h4 a0 2 0 (.int (v5 + (1 : Int32))) (fun h6 =>
            rV h6))))))
def qLb_put_23_b (k23 : Nat → Int32 → Int32 → Int32 → Int32 → XH → XR) (a0 : Nat) (x1 : Int32) (x2 : Int32) (x3 : Int32) (x4 : Int32) (h : XH) : XR :=
  if x3 < x4 then
  (gR h a0 2 1 (fun a_1 =>
    gR h a0 2 1 (fun a_2 =>
      rdI h a_2 (x4 - (1 : Int32)) (fun v3 =>
        wrI h a_1 x4 v3 (fun h4 =>
          gR h4 a0 2 2 (fun a_5 =>
            gR h4 a0 2 2 (fun a_6 =>
              rdI h4 a_6 (x4 - (1 : Int32)) (fun v7 =>
                wrI h4 a_5 x4 v7 (fun h8 =>
                  k23 a0 x1 x2 x3 (x4 + (-1 : Int32)) h8)))))))))
  else
  qLb_put_67 a0 x1 x2 x3 h
def qLb_put_23 : Nat → Nat → Int32 → Int32 → Int32 → Int32 → XH → XR
  | 0 => fun _ _ _ _ _ _ => none
  | n + 1 => qLb_put_23_b (qLb_put_23 n)
def qLb_put (a0 : Nat) (x1 : Int32) (x2 : Int32) (h : XH) : XR :=
  isO h a0 2 (bI (qLb_rankOf a0 x1 h) (fun v2 h1 =>
  gI h1 a0 2 0 (fun v3 =>
    if v3 < (160 : Int32) then
      (gI h1 a0 2 0 (fun v4 =>
        qLb_put_23 LF a0 x1 x2 v2 v4 h1))
      else
      rV h1)))
-- LineDiagram.putLabel(II)V
def qD_putLabel (a0 : Nat) (x1 : Int32) (x2 : Int32) (h : XH) : XR :=
  isO h a0 8 (bV (qD_takeLabel a0 x1 h) (fun h1 =>
  gR h1 a0 8 3 (fun a_2 =>
    gR h1 a_2 5 5 (fun a_3 =>
      isO h1 a_3 2 (bV (qLb_put a_3 x1 x2 h1) (fun h4 =>
        gR h4 a0 8 8 (fun a_5 =>
          isO h4 a_5 0 (bV (qB_paint a_5 x1 x2 (x1 + (1 : Int32)) h4) (fun h6 =>
            rV h6)))))))))
-- LineDiagram.label(III)I
def qD_label (a0 : Nat) (x1 : Int32) (x2 : Int32) (x3 : Int32) (h : XH) : XR :=
  isO h a0 8 (bI (qD_isStation a0 x1 x2 h) (fun v2 h1 =>
  if v2 = (0 : Int32) then
    (rI (-1 : Int32) h1)
    else
    bI (qD_isPosition x3 h1) (fun v4 h3 =>
      if v4 = (0 : Int32) then
        (rI (-1 : Int32) h3)
        else
        gR h3 a0 8 8 (fun a_5 =>
          isO h3 a_5 0 (bI (qB_stationCell a_5 x1 x2 h3) (fun v7 h6 =>
            gR h6 a0 8 3 (fun a_8 =>
              gR h6 a_8 5 5 (fun a_9 =>
                isO h6 a_9 2 (bI (qLb_positionOf a_9 v7 h6) (fun v11 h10 =>
                  if v11 = x3 then
                    (rI (-2 : Int32) h10)
                    else
                    gR h10 a0 8 8 (fun a_12 =>
                      isO h10 a_12 0 (bI (qB_reason a_12 v7 x3 h10) (fun v14 h13 =>
                        if v14 < (0 : Int32) then
                        (rI v14 h13)
                        else
                        gR h13 a0 8 7 (fun a_15 =>
                        gR h13 a0 8 3 (fun a_16 =>
                        isO h13 a_15 1 (bV (qH_push a_15 a_16 h13) (fun h17 =>
                        isO h17 a0 8 (bV (qD_putLabel a0 v7 x3 h17) (fun h18 =>
                        gR h18 a0 8 8 (fun a_19 =>
                        gR h18 a_19 0 6 (fun a_20 =>
                        rdI h18 a_20 v7 (fun v21 =>
                        rI v21 h18))))))))))))))))))))))
-- LineDiagramModel.isStation(II)Z
def qM_isStation (a0 : Nat) (x1 : Int32) (x2 : Int32) (h : XH) : XR :=
  isO h a0 9 (bI (qM_isLine a0 x1 h) (fun v2 h1 =>
  if v2 = (0 : Int32) then
    (rI (0 : Int32) h1)
    else
    isO h1 a0 9 (bI (qM_of a0 x1 (1 : Int32) h1) (fun v4 h3 =>
      bI (qM_in (x2.toInt64) (0 : Int64) ((v4 - (1 : Int32)).toInt64) h3) (fun v6 h5 =>
        if v6 = (0 : Int32) then
          (rI (0 : Int32) h5)
          else
          rI (1 : Int32) h5)))))
