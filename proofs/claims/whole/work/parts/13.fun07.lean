-- LineDiagram$Board.columnsTo(II)I
def qB_columnsTo (x0 : Int32) (x1 : Int32) (h : XH) : XR :=
  if x0 = (0 : Int32) then (rI (1 : Int32) h) else
  if x0 = (1 : Int32) then (rI (-x1) h) else
  if x0 = (2 : Int32) then (rI (1 : Int32) h) else
  if x0 = (3 : Int32) then (rI (1 : Int32) h) else
  if x0 = (4 : Int32) then (rI (-x1) h) else
  if x0 = (5 : Int32) then (rI (-x1) h) else
  rI (-(x1 / (2 : Int32))) h
-- LineDiagram$Board.rowsTo(I)I
def qB_rowsTo (x0 : Int32) (h : XH) : XR :=
  if x0 = (0 : Int32) then (rI (0 : Int32) h) else
  if x0 = (1 : Int32) then (rI (0 : Int32) h) else
  if x0 = (2 : Int32) then (rI (-1 : Int32) h) else
  if x0 = (3 : Int32) then (rI (1 : Int32) h) else
  if x0 = (4 : Int32) then (rI (-1 : Int32) h) else
  if x0 = (5 : Int32) then (rI (1 : Int32) h) else
  if x0 = (6 : Int32) then (rI (-1 : Int32) h) else
  rI (1 : Int32) h
-- LineDiagram$Board.holds(II)Z
def qB_holds (a0 : Nat) (x1 : Int32) (x2 : Int32) (h : XH) : XR :=
  if x1 < (0 : Int32) then
  (rI (0 : Int32) h)
  else
  gI h a0 0 0 (fun v1 =>
    if x1 < v1 then
      (if x2 < (0 : Int32) then
        (rI (0 : Int32) h)
        else
        gI h a0 0 1 (fun v2 =>
          if x2 < v2 then
            (rI (1 : Int32) h)
            else
            rI (0 : Int32) h))
      else
      rI (0 : Int32) h)
-- LineDiagram$Board.beginOf(II)I
def qB_beginOf (a0 : Nat) (x1 : Int32) (x2 : Int32) (h : XH) : XR :=
  bI (qD_columnOf x1 h) (fun v2 h1 =>
  gR h1 a0 0 6 (fun a_3 =>
    rdI h1 a_3 x1 (fun v4 =>
      bI (qB_columnsTo x2 v4 h1) (fun v6 h5 =>
        bI (qD_rowOf x1 h5) (fun v8 h7 =>
          bI (qB_rowsTo x2 h7) (fun v10 h9 =>
            isO h9 a0 0 (bI (qB_holds a0 (v2 + v6) (v8 + v10) h9) (fun v12 h11 =>
              if v12 = (0 : Int32) then
                (rI (-1 : Int32) h11)
                else
                gR h11 a0 0 6 (fun a_13 =>
                  rdI h11 a_13 x1 (fun v14 =>
                    isO h11 a0 0 (bI (qB_holds a0 (((v2 + v6) + v14) - (1 : Int32)) (v8 + v10) h11) (fun v16 h15 =>
                      if v16 = (0 : Int32) then
                        (rI (-1 : Int32) h15)
                        else
                        bI (qD_cellAt (v2 + v6) (v8 + v10) h15) (fun v18 h17 =>
                        rI v18 h17)))))))))))))
-- LineDiagram$Board.reason(II)I
def qB_reason_20_b (k20 : Nat → Int32 → Int32 → Int32 → Int32 → XH → XR) (a0 : Nat) (x1 : Int32) (x3 : Int32) (x4 : Int32) (x5 : Int32) (h : XH) : XR :=
  gR h a0 0 6 (fun a_1 =>
  rdI h a_1 x1 (fun v2 =>
    if x5 < (x3 + v2) then
      (gR h a0 0 2 (fun a_3 =>
        rdI h a_3 x5 (fun v4 =>
          if v4 = (0 : Int32) then
            (gR h a0 0 7 (fun a_5 =>
              rdI h a_5 x5 (fun v6 =>
                if v6 = (0 : Int32) then
                  (k20 a0 x1 x3 x4 (x5 + (1 : Int32)) h)
                  else
                  gR h a0 0 7 (fun a_7 =>
                    rdI h a_7 x5 (fun v8 =>
                      if v8 = (x1 + (1 : Int32)) then
                        (k20 a0 x1 x3 x4 (x5 + (1 : Int32)) h)
                        else
                        k20 a0 x1 x3 (-7 : Int32) (x5 + (1 : Int32)) h)))))
            else
            rI (-6 : Int32) h)))
      else
      rI x4 h))
def qB_reason_20 : Nat → Nat → Int32 → Int32 → Int32 → Int32 → XH → XR
  | 0 => fun _ _ _ _ _ _ => none
  | n + 1 => qB_reason_20_b (qB_reason_20 n)
def qB_reason (a0 : Nat) (x1 : Int32) (x2 : Int32) (h : XH) : XR :=
  isO h a0 0 (bI (qB_beginOf a0 x1 x2 h) (fun v2 h1 =>
  if v2 < (0 : Int32) then
    (rI (-5 : Int32) h1)
    else
    qB_reason_20 LF a0 x1 v2 (0 : Int32) v2 h1))
-- LineDiagram$Board.paint(III)V
def qB_paint_18_b (k18 : Nat → Int32 → Int32 → Int32 → Int32 → XH → XR) (a0 : Nat) (x1 : Int32) (x3 : Int32) (x4 : Int32) (x5 : Int32) (h : XH) : XR :=
  gR h a0 0 6 (fun a_1 =>
  rdI h a_1 x1 (fun v2 =>
    if x5 < (x4 + v2) then
      (gR h a0 0 7 (fun a_3 =>
        wrI h a_3 x5 x3 (fun h4 =>
          k18 a0 x1 x3 x4 (x5 + (1 : Int32)) h4)))
      else
      rV h))
def qB_paint_18 : Nat → Nat → Int32 → Int32 → Int32 → Int32 → XH → XR
  | 0 => fun _ _ _ _ _ _ => none
  | n + 1 => qB_paint_18_b (qB_paint_18 n)
def qB_paint (a0 : Nat) (x1 : Int32) (x2 : Int32) (x3 : Int32) (h : XH) : XR :=
  isO h a0 0 (bI (qB_beginOf a0 x1 x2 h) (fun v2 h1 =>
  if v2 < (0 : Int32) then
    (rV h1)
    else
    qB_paint_18 LF a0 x1 x3 v2 v2 h1))
-- LineDiagram$Labels.keepFitting(LLineDiagram$Board;)I
def qLb_keepFitting_86 (a0 : Nat) (x2 : Int32) (h : XH) : XR :=
  gI h a0 2 0 (fun v1 =>
  pV h a0 2 0 (.int x2) (fun h2 =>
    rI (v1 - x2) h2))
def qLb_keepFitting_4_b (k4 : Nat → Nat → Int32 → Int32 → XH → XR) (a0 : Nat) (a1 : Nat) (x2 : Int32) (x3 : Int32) (h : XH) : XR :=
  gI h a0 2 0 (fun v1 =>
  if x3 < v1 then
    (gR h a0 2 1 (fun a_2 =>
      rdI h a_2 x3 (fun v3 =>
        gR h a0 2 2 (fun a_4 =>
          rdI h a_4 x3 (fun v5 =>
            gR h a1 0 4 (fun a_6 =>
              rdI h a_6 v3 (fun v7 =>
                if (0 : Int32) < v7 then
                  (isO h a1 0 (bI (qB_reason a1 v3 v5 h) (fun v9 h8 =>
                    if v9 = (0 : Int32) then
                      (isO h8 a1 0 (bV (qB_paint a1 v3 v5 (v3 + (1 : Int32)) h8) (fun h10 =>
                        gR h10 a0 2 1 (fun a_11 =>
                        wrI h10 a_11 x2 v3 (fun h12 =>
                        gR h12 a0 2 2 (fun a_13 =>
                        wrI h12 a_13 x2 v5 (fun h14 =>
                        k4 a0 a1 (x2 + (1 : Int32)) (x3 + (1 : Int32)) h14)))))))
                      else
                      k4 a0 a1 x2 (x3 + (1 : Int32)) h8)))
                  else
                  k4 a0 a1 x2 (x3 + (1 : Int32)) h)))))))
    else
    qLb_keepFitting_86 a0 x2 h)
def qLb_keepFitting_4 : Nat → Nat → Nat → Int32 → Int32 → XH → XR
  | 0 => fun _ _ _ _ _ => none
  | n + 1 => qLb_keepFitting_4_b (qLb_keepFitting_4 n)
def qLb_keepFitting (a0 : Nat) (a1 : Nat) (h : XH) : XR :=
  qLb_keepFitting_4 LF a0 a1 (0 : Int32) (0 : Int32) h
-- LineDiagram.putTrial(I)I
def qD_putTrial (a0 : Nat) (x1 : Int32) (h : XH) : XR :=
  gR h a0 8 3 (fun a_1 =>
  gR h a_1 5 4 (fun a_2 =>
    rdR h a_2 x1 (fun a_3 =>
      gR h a0 8 10 (fun a_4 =>
        isO h a_3 3 (bV (qLn_copyFrom a_3 a_4 h) (fun h5 =>
          gR h5 a0 8 8 (fun a_6 =>
            gR h5 a0 8 3 (fun a_7 =>
              isO h5 a_6 0 (bV (qB_drawLines a_6 a_7 h5) (fun h8 =>
                gR h8 a0 8 3 (fun a_9 =>
                  gR h8 a_9 5 5 (fun a_10 =>
                    gR h8 a0 8 8 (fun a_11 =>
                      isO h8 a_10 2 (bI (qLb_keepFitting a_10 a_11 h8) (fun v13 h12 =>
                        rI v13 h12)))))))))))))))
-- LineDiagram.change(I)I
def qD_change (a0 : Nat) (x1 : Int32) (h : XH) : XR :=
  gR h a0 8 10 (fun a_1 =>
  gR h a0 8 3 (fun a_2 =>
    gI h a_2 5 2 (fun v3 =>
      isO h a_1 3 (bI (qLn_refusal a_1 v3 h) (fun v5 h4 =>
        if v5 < (0 : Int32) then
          (rI v5 h4)
          else
          gR h4 a0 8 7 (fun a_6 =>
            gR h4 a0 8 3 (fun a_7 =>
              isO h4 a_6 1 (bV (qH_push a_6 a_7 h4) (fun h8 =>
                isO h8 a0 8 (bI (qD_putTrial a0 x1 h8) (fun v10 h9 =>
                  rI v10 h9)))))))))))
-- LineDiagram.moveBend(IIII)I
def qD_moveBend (a0 : Nat) (x1 : Int32) (x2 : Int32) (x3 : Int32) (x4 : Int32) (h : XH) : XR :=
  isO h a0 8 (bI (qD_tryMove a0 x1 x2 x3 x4 h) (fun v2 h1 =>
  if v2 < (0 : Int32) then
    (rI v2 h1)
    else
    isO h1 a0 8 (bI (qD_change a0 x1 h1) (fun v4 h3 =>
      rI v4 h3))))
-- LineDiagramModel.of(II)I
def qM_of (a0 : Nat) (x1 : Int32) (x2 : Int32) (h : XH) : XR :=
  gR h a0 9 8 (fun a_1 =>
  rdI h a_1 (((23 : Int32) * x1) + x2) (fun v2 =>
    rI v2 h))
-- LineDiagramModel.px(II)I
def qM_px (a0 : Nat) (x1 : Int32) (x2 : Int32) (h : XH) : XR :=
  isO h a0 9 (bI (qM_of a0 x1 ((3 : Int32) + ((2 : Int32) * x2)) h) (fun v2 h1 =>
  rI v2 h1))
