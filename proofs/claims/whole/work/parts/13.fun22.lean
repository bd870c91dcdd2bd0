-- LineDiagramModel.changesOn(I)I
def qM_changesOn_4_b (k4 : Nat → Int32 → Int32 → Int32 → XH → XR) (a0 : Nat) (x1 : Int32) (x2 : Int32) (x3 : Int32) (h : XH) : XR :=
  if x3 < (1600 : Int32) then
  (gR h a0 9 19 (fun a_1 =>
    rdI h a_1 x3 (fun v2 =>
      if (v2 &&& x1) = (0 : Int32) then
        (k4 a0 x1 (x2 ||| (0 : Int32)) (x3 + (1 : Int32)) h)
        else
        gR h a0 9 19 (fun a_3 =>
          rdI h a_3 x3 (fun v4 =>
            k4 a0 x1 (x2 ||| v4) (x3 + (1 : Int32)) h)))))
  else
  rI x2 h
def qM_changesOn_4 : Nat → Nat → Int32 → Int32 → Int32 → XH → XR
  | 0 => fun _ _ _ _ _ => none
  | n + 1 => qM_changesOn_4_b (qM_changesOn_4 n)
def qM_changesOn (a0 : Nat) (x1 : Int32) (h : XH) : XR :=
  qM_changesOn_4 LF a0 x1 x1 (0 : Int32) h
-- LineDiagramModel.changes(IIII)I
def qM_changes_55_b (k55 : Nat → Int32 → Int32 → Int32 → XH → XR) (a0 : Nat) (x5 : Int32) (x6 : Int32) (x7 : Int32) (h : XH) : XR :=
  if x7 < (8 : Int32) then
  (if (x5 &&& x6) = (0 : Int32) then
    (isO h a0 9 (bI (qM_changesOn a0 x5 h) (fun v2 h1 =>
      k55 a0 v2 x6 (x7 + (1 : Int32)) h1)))
    else
    rI x7 h)
  else
  rI (-2 : Int32) h
def qM_changes_55 : Nat → Nat → Int32 → Int32 → Int32 → XH → XR
  | 0 => fun _ _ _ _ _ => none
  | n + 1 => qM_changes_55_b (qM_changes_55 n)
def qM_changes (a0 : Nat) (x1 : Int32) (x2 : Int32) (x3 : Int32) (x4 : Int32) (h : XH) : XR :=
  isO h a0 9 (bI (qM_isStation a0 x1 x2 h) (fun v2 h1 =>
  if v2 = (0 : Int32) then
    (rI (-1 : Int32) h1)
    else
    isO h1 a0 9 (bI (qM_isStation a0 x3 x4 h1) (fun v4 h3 =>
      if v4 = (0 : Int32) then
        (rI (-1 : Int32) h3)
        else
        isO h3 a0 9 (bV (qM_lays a0 h3) (fun h5 =>
          gR h5 a0 9 19 (fun a_6 =>
            isO h5 a0 9 (bI (qM_cellOf a0 x1 x2 h5) (fun v8 h7 =>
              rdI h7 a_6 v8 (fun v9 =>
                gR h7 a0 9 19 (fun a_10 =>
                  isO h7 a0 9 (bI (qM_cellOf a0 x3 x4 h7) (fun v12 h11 =>
                    rdI h11 a_10 v12 (fun v13 =>
                      qM_changes_55 LF a0 v9 v13 (0 : Int32) h11))))))))))))))
-- LineDiagram.position(II)I
def qD_position (a0 : Nat) (x1 : Int32) (x2 : Int32) (h : XH) : XR :=
  isO h a0 8 (bI (qD_isStation a0 x1 x2 h) (fun v2 h1 =>
  if v2 = (0 : Int32) then
    (rI (-1 : Int32) h1)
    else
    gR h1 a0 8 3 (fun a_3 =>
      gR h1 a_3 5 5 (fun a_4 =>
        gR h1 a0 8 8 (fun a_5 =>
          isO h1 a_5 0 (bI (qB_stationCell a_5 x1 x2 h1) (fun v7 h6 =>
            isO h6 a_4 2 (bI (qLb_positionOf a_4 v7 h6) (fun v9 h8 =>
              rI v9 h8)))))))))
-- LineDiagramModel.position(II)I
def qM_position (a0 : Nat) (x1 : Int32) (x2 : Int32) (h : XH) : XR :=
  isO h a0 9 (bI (qM_isStation a0 x1 x2 h) (fun v2 h1 =>
  if v2 = (0 : Int32) then
    (rI (-1 : Int32) h1)
    else
    isO h1 a0 9 (bV (qM_lays a0 h1) (fun h3 =>
      isO h3 a0 9 (bI (qM_cellOf a0 x1 x2 h3) (fun v5 h4 =>
        isO h4 a0 9 (bI (qM_labelOf a0 v5 h4) (fun v7 h6 =>
          rI v7 h6))))))))
-- LineDiagram.why(III)I
def qD_why (a0 : Nat) (x1 : Int32) (x2 : Int32) (x3 : Int32) (h : XH) : XR :=
  isO h a0 8 (bI (qD_isStation a0 x1 x2 h) (fun v2 h1 =>
  if v2 = (0 : Int32) then
    (rI (-1 : Int32) h1)
    else
    bI (qD_isPosition x3 h1) (fun v4 h3 =>
      if v4 = (0 : Int32) then
        (rI (-1 : Int32) h3)
        else
        gR h3 a0 8 8 (fun a_5 =>
          gR h3 a0 8 8 (fun a_6 =>
            isO h3 a_6 0 (bI (qB_stationCell a_6 x1 x2 h3) (fun v8 h7 =>
              isO h7 a_5 0 (bI (qB_reason a_5 v8 x3 h7) (fun v10 h9 =>
                rI v10 h9)))))))))
-- LineDiagramModel.why(III)I
def qM_why (a0 : Nat) (x1 : Int32) (x2 : Int32) (x3 : Int32) (h : XH) : XR :=
  isO h a0 9 (bI (qM_isStation a0 x1 x2 h) (fun v2 h1 =>
  if v2 = (0 : Int32) then
    (rI (-1 : Int32) h1)
    else
    bI (qM_isPosition x3 h1) (fun v4 h3 =>
      if v4 = (0 : Int32) then
        (rI (-1 : Int32) h3)
        else
        isO h3 a0 9 (bV (qM_lays a0 h3) (fun h5 =>
          isO h5 a0 9 (bI (qM_cellOf a0 x1 x2 h5) (fun v7 h6 =>
            isO h6 a0 9 (bI (qM_whyNot a0 v7 x3 h6) (fun v9 h8 =>
              rI v9 h8)))))))))
-- LineDiagram.free(II)I
def qD_free_27_b (k27 : Nat → Int32 → Int32 → Int32 → XH → XR) (a0 : Nat) (x3 : Int32) (x4 : Int32) (x5 : Int32) (h : XH) : XR :=
  if x5 < (8 : Int32) then
  (gR h a0 8 8 (fun a_1 =>
    isO h a_1 0 (bI (qB_reason a_1 x3 x5 h) (fun v3 h2 =>
      if v3 = (0 : Int32) then
        (k27 a0 x3 (x4 ||| (jshl (1 : Int32) x5)) (x5 + (1 : Int32)) h2)
        else
        k27 a0 x3 x4 (x5 + (1 : Int32)) h2))))
  else
  rI x4 h
def qD_free_27 : Nat → Nat → Int32 → Int32 → Int32 → XH → XR
  | 0 => fun _ _ _ _ _ => none
  | n + 1 => qD_free_27_b (qD_free_27 n)
def qD_free (a0 : Nat) (x1 : Int32) (x2 : Int32) (h : XH) : XR :=
  isO h a0 8 (bI (qD_isStation a0 x1 x2 h) (fun v2 h1 =>
  if v2 = (0 : Int32) then
    (rI (-1 : Int32) h1)
    else
    gR h1 a0 8 8 (fun a_3 =>
      isO h1 a_3 0 (bI (qB_stationCell a_3 x1 x2 h1) (fun v5 h4 =>
        qD_free_27 LF a0 v5 (0 : Int32) (0 : Int32) h4)))))
-- LineDiagramModel.free(II)I
def qM_free_20_b (k20 : Nat → Int32 → Int32 → Int32 → Int32 → XH → XR) (a0 : Nat) (x1 : Int32) (x2 : Int32) (x3 : Int32) (x4 : Int32) (h : XH) : XR :=
  if x4 < (8 : Int32) then
  (isO h a0 9 (bI (qM_cellOf a0 x1 x2 h) (fun v2 h1 =>
    isO h1 a0 9 (bI (qM_whyNot a0 v2 x4 h1) (fun v4 h3 =>
      if v4 = (0 : Int32) then
        (k20 a0 x1 x2 (x3 ||| (jshl (1 : Int32) x4)) (x4 + (1 : Int32)) h3)
        else
        k20 a0 x1 x2 (x3 ||| (0 : Int32)) (x4 + (1 : Int32)) h3)))))
  else
  rI x3 h
def qM_free_20 : Nat → Nat → Int32 → Int32 → Int32 → Int32 → XH → XR
  | 0 => fun _ _ _ _ _ _ => none
  | n + 1 => qM_free_20_b (qM_free_20 n)
def qM_free (a0 : Nat) (x1 : Int32) (x2 : Int32) (h : XH) : XR :=
  isO h a0 9 (bI (qM_isStation a0 x1 x2 h) (fun v2 h1 =>
  if v2 = (0 : Int32) then
    (rI (-1 : Int32) h1)
    else
    isO h1 a0 9 (bV (qM_lays a0 h1) (fun h3 =>
      qM_free_20 LF a0 x1 x2 (0 : Int32) (0 : Int32) h3))))
-- LineDiagram.labelAt(II)I
def qD_labelAt (a0 : Nat) (x1 : Int32) (x2 : Int32) (h : XH) : XR :=
  isO h a0 8 (bI (qD_isCell a0 x1 x2 h) (fun v2 h1 =>
  if v2 = (0 : Int32) then
    (rI (-1 : Int32) h1)
    else
    gR h1 a0 8 8 (fun a_3 =>
      gR h1 a_3 0 7 (fun a_4 =>
        bI (qD_cellAt x1 x2 h1) (fun v6 h5 =>
          rdI h5 a_4 v6 (fun v7 =>
            if v7 = (0 : Int32) then
              (rI (-2 : Int32) h5)
              else
              bI (qD_codeOf (v7 - (1 : Int32)) h5) (fun v9 h8 =>
                rI v9 h8)))))))
-- LineDiagramModel.labelAt(II)I
def qM_labelAt (a0 : Nat) (x1 : Int32) (x2 : Int32) (h : XH) : XR :=
  isO h a0 9 (bI (qM_isCell a0 x1 x2 h) (fun v2 h1 =>
  if v2 = (0 : Int32) then
    (rI (-1 : Int32) h1)
    else
    isO h1 a0 9 (bV (qM_lays a0 h1) (fun h3 =>
      gR h3 a0 9 21 (fun a_4 =>
        bI (qM_cell x1 x2 h3) (fun v6 h5 =>
          rdI h5 a_4 v6 (fun v7 =>
            bI (qM_told v7 h5) (fun v9 h8 =>
              rI v9 h8))))))))
-- LineDiagram.stuck()I
def qD_stuck_4_b (k4 : Nat → Int32 → Int32 → XH → XR) (a0 : Nat) (x1 : Int32) (x2 : Int32) (h : XH) : XR :=
  if x2 < (1600 : Int32) then
  (isO h a0 8 (bI (qD_wantsLabel a0 x2 h) (fun v2 h1 =>
    if v2 = (0 : Int32) then
      (k4 a0 x1 (x2 + (1 : Int32)) h1)
      else
      gR h1 a0 8 8 (fun a_3 =>
        isO h1 a_3 0 (bI (qB_firstFit a_3 x2 h1) (fun v5 h4 =>
          if v5 < (0 : Int32) then
            (k4 a0 (x1 + (1 : Int32)) (x2 + (1 : Int32)) h4)
            else
            k4 a0 x1 (x2 + (1 : Int32)) h4))))))
  else
  rI x1 h
def qD_stuck_4 : Nat → Nat → Int32 → Int32 → XH → XR
  | 0 => fun _ _ _ _ => none
  | n + 1 => qD_stuck_4_b (qD_stuck_4 n)
def qD_stuck (a0 : Nat) (h : XH) : XR :=
  qD_stuck_4 LF a0 (0 : Int32) (0 : Int32) h
-- LineDiagramModel.stuck()I
def qM_stuck_44 (k8 : Nat → Int32 → Int32 → XH → XR) (a0 : Nat) (x2 : Int32) (s0 : Int32) (h : XH) : XR :=
  k8 a0 (s0 + (0 : Int32)) (x2 + (1 : Int32)) h
def qM_stuck_8_b (k8 : Nat → Int32 → Int32 → XH → XR) (a0 : Nat) (x1 : Int32) (x2 : Int32) (h : XH) : XR :=
  if x2 < (1600 : Int32) then
  (isO h a0 9 (bI (qM_isPlace a0 x2 h) (fun v2 h1 =>
    if v2 = (0 : Int32) then
      (qM_stuck_44 k8 a0 x2 x1 h1)
      else
      isO h1 a0 9 (bI (qM_labelOf a0 x2 h1) (fun v4 h3 =>
        if v4 < (0 : Int32) then
          (isO h3 a0 9 (bI (qM_firstFree a0 x2 h3) (fun v6 h5 =>
            if v6 < (0 : Int32) then
              (k8 a0 (x1 + (1 : Int32)) (x2 + (1 : Int32)) h5)
              else
              qM_stuck_44 k8 a0 x2 x1 h5)))
          else
          qM_stuck_44 k8 a0 x2 x1 h3)))))
  else
  rI x1 h
def qM_stuck_8 : Nat → Nat → Int32 → Int32 → XH → XR
  | 0 => fun _ _ _ _ => none
  | n + 1 => qM_stuck_8_b (qM_stuck_8 n)
def qM_stuck (a0 : Nat) (h : XH) : XR :=
  isO h a0 9 (bV (qM_lays a0 h) (fun h1 =>
  qM_stuck_8 LF a0 (0 : Int32) (0 : Int32) h1))
