-- LineDiagramModel.isPosition(I)Z
def qM_isPosition (x0 : Int32) (h : XH) : XR :=
  bI (qM_in (x0.toInt64) (0 : Int64) (7 : Int64) h) (fun v2 h1 =>
  rZ v2 h1)
-- LineDiagramModel.lays()V
def qM_lays_10_b (k10 : Nat → Int32 → XH → XR) (a0 : Nat) (x1 : Int32) (h : XH) : XR :=
  if x1 < (1600 : Int32) then
  (isO h a0 9 (bI (qM_labelOf a0 x1 h) (fun v2 h1 =>
    if v2 < (0 : Int32) then
      (k10 a0 (x1 + (1 : Int32)) h1)
      else
      isO h1 a0 9 (bI (qM_labelOf a0 x1 h1) (fun v4 h3 =>
        isO h3 a0 9 (bV (qM_laysLabel a0 x1 v4 x1 h3) (fun h5 =>
          k10 a0 (x1 + (1 : Int32)) h5)))))))
  else
  rV h
def qM_lays_10 : Nat → Nat → Int32 → XH → XR
  | 0 => fun _ _ _ => none
  | n + 1 => qM_lays_10_b (qM_lays_10 n)
def qM_lays (a0 : Nat) (h : XH) : XR :=
  isO h a0 9 (bV (qM_laysLines a0 h) (fun h1 =>
  isO h1 a0 9 (bV (qM_clearsLabels a0 h1) (fun h2 =>
    qM_lays_10 LF a0 (0 : Int32) h2))))
-- LineDiagramModel.label(III)I
def qM_label (a0 : Nat) (x1 : Int32) (x2 : Int32) (x3 : Int32) (h : XH) : XR :=
  isO h a0 9 (bI (qM_isStation a0 x1 x2 h) (fun v2 h1 =>
  if v2 = (0 : Int32) then
    (rI (-1 : Int32) h1)
    else
    bI (qM_isPosition x3 h1) (fun v4 h3 =>
      if v4 = (0 : Int32) then
        (rI (-1 : Int32) h3)
        else
        isO h3 a0 9 (bV (qM_lays a0 h3) (fun h5 =>
          isO h5 a0 9 (bI (qM_cellOf a0 x1 x2 h5) (fun v7 h6 =>
            isO h6 a0 9 (bI (qM_labelOf a0 v7 h6) (fun v9 h8 =>
              if v9 = x3 then
                (rI (-2 : Int32) h8)
                else
                isO h8 a0 9 (bI (qM_whyNot a0 v7 x3 h8) (fun v11 h10 =>
                  if v11 < (0 : Int32) then
                    (rI v11 h10)
                    else
                    isO h10 a0 9 (bV (qM_remembers a0 h10) (fun h12 =>
                      gR h12 a0 9 8 (fun a_13 =>
                        wrI h12 a_13 ((184 : Int32) + v7) x3 (fun h14 =>
                        gR h14 a0 9 20 (fun a_15 =>
                        rdI h14 a_15 v7 (fun v16 =>
                        rI v16 h14)))))))))))))))))
-- LineDiagram.unlabel(II)I
def qD_unlabel (a0 : Nat) (x1 : Int32) (x2 : Int32) (h : XH) : XR :=
  isO h a0 8 (bI (qD_isStation a0 x1 x2 h) (fun v2 h1 =>
  if v2 = (0 : Int32) then
    (rI (-1 : Int32) h1)
    else
    gR h1 a0 8 8 (fun a_3 =>
      isO h1 a_3 0 (bI (qB_stationCell a_3 x1 x2 h1) (fun v5 h4 =>
        gR h4 a0 8 3 (fun a_6 =>
          gR h4 a_6 5 5 (fun a_7 =>
            isO h4 a_7 2 (bI (qLb_positionOf a_7 v5 h4) (fun v9 h8 =>
              if v9 < (0 : Int32) then
                (rI (-2 : Int32) h8)
                else
                gR h8 a0 8 7 (fun a_10 =>
                  gR h8 a0 8 3 (fun a_11 =>
                    isO h8 a_10 1 (bV (qH_push a_10 a_11 h8) (fun h12 =>
                      isO h12 a0 8 (bV (qD_takeLabel a0 v5 h12) (fun h13 =>
                        rI v9 h13)))))))))))))))
-- LineDiagramModel.unlabel(II)I
def qM_unlabel (a0 : Nat) (x1 : Int32) (x2 : Int32) (h : XH) : XR :=
  isO h a0 9 (bI (qM_isStation a0 x1 x2 h) (fun v2 h1 =>
  if v2 = (0 : Int32) then
    (rI (-1 : Int32) h1)
    else
    isO h1 a0 9 (bV (qM_lays a0 h1) (fun h3 =>
      isO h3 a0 9 (bI (qM_cellOf a0 x1 x2 h3) (fun v5 h4 =>
        isO h4 a0 9 (bI (qM_labelOf a0 v5 h4) (fun v7 h6 =>
          if v7 < (0 : Int32) then
            (rI v7 h6)
            else
            isO h6 a0 9 (bV (qM_remembers a0 h6) (fun h8 =>
              gR h8 a0 9 8 (fun a_9 =>
                wrI h8 a_9 ((184 : Int32) + v5) (-2 : Int32) (fun h10 =>
                  rI v7 h10))))))))))))
-- LineDiagram$Board.firstFit(I)I
def qB_firstFit_2_b (k2 : Nat → Int32 → Int32 → XH → XR) (a0 : Nat) (x1 : Int32) (x2 : Int32) (h : XH) : XR :=
  if x2 < (8 : Int32) then
  (isO h a0 0 (bI (qB_reason a0 x1 x2 h) (fun v2 h1 =>
    if v2 = (0 : Int32) then
      (rI x2 h1)
      else
      k2 a0 x1 (x2 + (1 : Int32)) h1)))
  else
  rI (-2 : Int32) h
def qB_firstFit_2 : Nat → Nat → Int32 → Int32 → XH → XR
  | 0 => fun _ _ _ _ => none
  | n + 1 => qB_firstFit_2_b (qB_firstFit_2 n)
def qB_firstFit (a0 : Nat) (x1 : Int32) (h : XH) : XR :=
  qB_firstFit_2 LF a0 x1 (0 : Int32) h
-- LineDiagram$Board.onlyLabelUnder(II)I
def qB_onlyLabelUnder_74 (k31 : Nat → Int32 → Int32 → Int32 → Int32 → XH → XR) (a0 : Nat) (x1 : Int32) (x3 : Int32) (x4 : Int32) (x5 : Int32) (h : XH) : XR :=
  gR h a0 0 7 (fun a_1 =>
  rdI h a_1 x5 (fun v2 =>
    k31 a0 x1 x3 (jmax x4 v2) (x5 + (1 : Int32)) h))
def qB_onlyLabelUnder_31_b (k31 : Nat → Int32 → Int32 → Int32 → Int32 → XH → XR) (a0 : Nat) (x1 : Int32) (x3 : Int32) (x4 : Int32) (x5 : Int32) (h : XH) : XR :=
  gR h a0 0 6 (fun a_1 =>
  rdI h a_1 x1 (fun v2 =>
    if x5 < (x3 + v2) then
      (gR h a0 0 7 (fun a_3 =>
        rdI h a_3 x5 (fun v4 =>
          if v4 = (0 : Int32) then
            (qB_onlyLabelUnder_74 k31 a0 x1 x3 x4 x5 h)
            else
            if x4 = (0 : Int32) then
              (qB_onlyLabelUnder_74 k31 a0 x1 x3 x4 x5 h)
              else
              gR h a0 0 7 (fun a_5 =>
                rdI h a_5 x5 (fun v6 =>
                  if v6 = x4 then
                    (qB_onlyLabelUnder_74 k31 a0 x1 x3 x4 x5 h)
                    else
                    rI (-2 : Int32) h)))))
      else
      rI (x4 - (1 : Int32)) h))
def qB_onlyLabelUnder_31 : Nat → Nat → Int32 → Int32 → Int32 → Int32 → XH → XR
  | 0 => fun _ _ _ _ _ _ => none
  | n + 1 => qB_onlyLabelUnder_31_b (qB_onlyLabelUnder_31 n)
def qB_onlyLabelUnder (a0 : Nat) (x1 : Int32) (x2 : Int32) (h : XH) : XR :=
  isO h a0 0 (bI (qB_beginOf a0 x1 x2 h) (fun v2 h1 =>
  if v2 < (0 : Int32) then
    (rI (-2 : Int32) h1)
    else
    isO h1 a0 0 (bI (qB_reason a0 x1 x2 h1) (fun v4 h3 =>
      if v4 = (-7 : Int32) then
        (qB_onlyLabelUnder_31 LF a0 x1 v2 (0 : Int32) v2 h3)
        else
        rI (-2 : Int32) h3))))
-- LineDiagram.refugeBeside(III)I
def qD_refugeBeside (a0 : Nat) (x1 : Int32) (x2 : Int32) (x3 : Int32) (h : XH) : XR :=
  gR h a0 8 3 (fun a_1 =>
  gR h a_1 5 5 (fun a_2 =>
    isO h a_2 2 (bI (qLb_positionOf a_2 x3 h) (fun v4 h3 =>
      gR h3 a0 8 8 (fun a_5 =>
        isO h3 a_5 0 (bV (qB_paint a_5 x1 x2 (x1 + (1 : Int32)) h3) (fun h6 =>
          gR h6 a0 8 8 (fun a_7 =>
            isO h6 a_7 0 (bI (qB_firstFit a_7 x3 h6) (fun v9 h8 =>
              gR h8 a0 8 8 (fun a_10 =>
                isO h8 a_10 0 (bV (qB_paint a_10 x1 x2 (0 : Int32) h8) (fun h11 =>
                  gR h11 a0 8 8 (fun a_12 =>
                    isO h11 a_12 0 (bV (qB_paint a_12 x3 v4 (x3 + (1 : Int32)) h11) (fun h13 =>
                      rI v9 h13))))))))))))))))
-- LineDiagram.pushAside(I)I
def qD_pushAside_41 (a0 : Nat) (x1 : Int32) (x2 : Int32) (x3 : Int32) (x4 : Int32) (h : XH) : XR :=
  gR h a0 8 7 (fun a_1 =>
  gR h a0 8 3 (fun a_2 =>
    isO h a_1 1 (bV (qH_push a_1 a_2 h) (fun h3 =>
      isO h3 a0 8 (bV (qD_takeLabel a0 x3 h3) (fun h4 =>
        isO h4 a0 8 (bV (qD_putLabel a0 x1 x2 h4) (fun h5 =>
          isO h5 a0 8 (bV (qD_putLabel a0 x3 x4 h5) (fun h6 =>
            rI x2 h6))))))))))
def qD_pushAside_34 (k2 : Nat → Int32 → Int32 → XH → XR) (a0 : Nat) (x1 : Int32) (x2 : Int32) (x3 : Int32) (s0 : Int32) (h : XH) : XR :=
  if s0 < (0 : Int32) then
  (k2 a0 x1 (x2 + (1 : Int32)) h)
  else
  qD_pushAside_41 a0 x1 x2 x3 s0 h
def qD_pushAside_2_b (k2 : Nat → Int32 → Int32 → XH → XR) (a0 : Nat) (x1 : Int32) (x2 : Int32) (h : XH) : XR :=
  if x2 < (8 : Int32) then
  (gR h a0 8 8 (fun a_1 =>
    isO h a_1 0 (bI (qB_onlyLabelUnder a_1 x1 x2 h) (fun v3 h2 =>
      if v3 < (0 : Int32) then
        (qD_pushAside_34 k2 a0 x1 x2 v3 (-2 : Int32) h2)
        else
        isO h2 a0 8 (bI (qD_refugeBeside a0 x1 x2 v3 h2) (fun v5 h4 =>
          qD_pushAside_34 k2 a0 x1 x2 v3 v5 h4))))))
  else
  rI (-2 : Int32) h
def qD_pushAside_2 : Nat → Nat → Int32 → Int32 → XH → XR
  | 0 => fun _ _ _ _ => none
  | n + 1 => qD_pushAside_2_b (qD_pushAside_2 n)
def qD_pushAside (a0 : Nat) (x1 : Int32) (h : XH) : XR :=
  qD_pushAside_2 LF a0 x1 (0 : Int32) h
-- LineDiagram.dodge(II)I
def qD_dodge (a0 : Nat) (x1 : Int32) (x2 : Int32) (h : XH) : XR :=
  isO h a0 8 (bI (qD_isStation a0 x1 x2 h) (fun v2 h1 =>
  if v2 = (0 : Int32) then
    (rI (-1 : Int32) h1)
    else
    gR h1 a0 8 8 (fun a_3 =>
      isO h1 a_3 0 (bI (qB_stationCell a_3 x1 x2 h1) (fun v5 h4 =>
        gR h4 a0 8 3 (fun a_6 =>
          gR h4 a_6 5 5 (fun a_7 =>
            isO h4 a_7 2 (bI (qLb_positionOf a_7 v5 h4) (fun v9 h8 =>
              if v9 < (0 : Int32) then
                (gR h8 a0 8 8 (fun a_10 =>
                  isO h8 a_10 0 (bI (qB_firstFit a_10 v5 h8) (fun v12 h11 =>
                    if v12 < (0 : Int32) then
                      (isO h11 a0 8 (bI (qD_pushAside a0 v5 h11) (fun v18 h17 =>
                        rI v18 h17)))
                      else
                      gR h11 a0 8 7 (fun a_13 =>
                        gR h11 a0 8 3 (fun a_14 =>
                        isO h11 a_13 1 (bV (qH_push a_13 a_14 h11) (fun h15 =>
                        isO h15 a0 8 (bV (qD_putLabel a0 v5 v12 h15) (fun h16 =>
                        rI v12 h16))))))))))
                else
                rI (-2 : Int32) h8)))))))))
-- LineDiagramModel.firstFree(I)I
def qM_firstFree_2_b (k2 : Nat → Int32 → Int32 → XH → XR) (a0 : Nat) (x1 : Int32) (x2 : Int32) (h : XH) : XR :=
  if x2 < (8 : Int32) then
  (isO h a0 9 (bI (qM_whyNot a0 x1 x2 h) (fun v2 h1 =>
    if v2 = (0 : Int32) then
      (rI x2 h1)
      else
      k2 a0 x1 (x2 + (1 : Int32)) h1)))
  else
  rI (-2 : Int32) h
def qM_firstFree_2 : Nat → Nat → Int32 → Int32 → XH → XR
  | 0 => fun _ _ _ _ => none
  | n + 1 => qM_firstFree_2_b (qM_firstFree_2 n)
def qM_firstFree (a0 : Nat) (x1 : Int32) (h : XH) : XR :=
  qM_firstFree_2 LF a0 x1 (0 : Int32) h
-- LineDiagramModel.gets(II)V
def qM_gets (a0 : Nat) (x1 : Int32) (x2 : Int32) (h : XH) : XR :=
  gR h a0 9 8 (fun a_1 =>
  wrI h a_1 ((184 : Int32) + x1) x2 (fun h2 =>
    isO h2 a0 9 (bV (qM_laysLabel a0 x1 x2 x1 h2) (fun h3 =>
      rV h3))))
