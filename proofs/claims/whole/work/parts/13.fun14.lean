-- LineDiagramModel.loses(I)V
def qM_loses (a0 : Nat) (x1 : Int32) (h : XH) : XR :=
  isO h a0 9 (bI (qM_labelOf a0 x1 h) (fun v2 h1 =>
  isO h1 a0 9 (bV (qM_laysLabel a0 x1 v2 (-2 : Int32) h1) (fun h3 =>
    gR h3 a0 9 8 (fun a_4 =>
      wrI h3 a_4 ((184 : Int32) + x1) (-2 : Int32) (fun h5 =>
        rV h5))))))
-- LineDiagramModel.makesWay(II)I
def qM_makesWay (a0 : Nat) (x1 : Int32) (x2 : Int32) (h : XH) : XR :=
  isO h a0 9 (bI (qM_isOff a0 x1 x2 h) (fun v2 h1 =>
  if v2 = (0 : Int32) then
    (isO h1 a0 9 (bI (qM_isOnLine a0 x1 x2 h1) (fun v4 h3 =>
      if v4 = (0 : Int32) then
        (isO h3 a0 9 (bI (qM_others a0 x1 x2 h3) (fun v6 h5 =>
          if v6 = (1 : Int32) then
            (gI h5 a0 9 22 (fun v7 =>
              isO h5 a0 9 (bI (qM_labelOf a0 v7 h5) (fun v9 h8 =>
                isO h8 a0 9 (bV (qM_loses a0 v7 h8) (fun h10 =>
                  isO h10 a0 9 (bV (qM_gets a0 x1 x2 h10) (fun h11 =>
                    isO h11 a0 9 (bI (qM_firstFree a0 v7 h11) (fun v13 h12 =>
                      if v13 < (0 : Int32) then
                        (isO h12 a0 9 (bV (qM_loses a0 x1 h12) (fun h14 =>
                        isO h14 a0 9 (bV (qM_gets a0 v7 v9 h14) (fun h15 =>
                        rI v13 h15)))))
                        else
                        isO h12 a0 9 (bV (qM_gets a0 v7 v13 h12) (fun h16 =>
                        rI v13 h16))))))))))))
            else
            rI (-2 : Int32) h5)))
        else
        rI (-2 : Int32) h3)))
    else
    rI (-2 : Int32) h1))
-- LineDiagramModel.dodge(II)I
def qM_dodge_96 (a0 : Nat) (x4 : Int32) (h : XH) : XR :=
  if x4 < (0 : Int32) then
  (rI x4 h)
  else
  isO h a0 9 (bV (qM_swaps a0 h) (fun h1 =>
    isO h1 a0 9 (bV (qM_remembers a0 h1) (fun h2 =>
      isO h2 a0 9 (bV (qM_swaps a0 h2) (fun h3 =>
        rI x4 h3))))))
def qM_dodge_59_b (k59 : Nat → Int32 → Int32 → Int32 → XH → XR) (a0 : Nat) (x3 : Int32) (x4 : Int32) (x5 : Int32) (h : XH) : XR :=
  if x5 < (8 : Int32) then
  (if x4 < (0 : Int32) then
    (isO h a0 9 (bI (qM_makesWay a0 x3 x5 h) (fun v2 h1 =>
      if v2 < (0 : Int32) then
        (k59 a0 x3 x4 (x5 + (1 : Int32)) h1)
        else
        k59 a0 x3 x5 (x5 + (1 : Int32)) h1)))
    else
    qM_dodge_96 a0 x4 h)
  else
  qM_dodge_96 a0 x4 h
def qM_dodge_59 : Nat → Nat → Int32 → Int32 → Int32 → XH → XR
  | 0 => fun _ _ _ _ _ => none
  | n + 1 => qM_dodge_59_b (qM_dodge_59 n)
def qM_dodge (a0 : Nat) (x1 : Int32) (x2 : Int32) (h : XH) : XR :=
  isO h a0 9 (bI (qM_isStation a0 x1 x2 h) (fun v2 h1 =>
  if v2 = (0 : Int32) then
    (rI (-1 : Int32) h1)
    else
    isO h1 a0 9 (bV (qM_lays a0 h1) (fun h3 =>
      isO h3 a0 9 (bI (qM_cellOf a0 x1 x2 h3) (fun v5 h4 =>
        isO h4 a0 9 (bI (qM_labelOf a0 v5 h4) (fun v7 h6 =>
          if v7 < (0 : Int32) then
            (isO h6 a0 9 (bV (qM_thinks a0 h6) (fun h8 =>
              isO h8 a0 9 (bI (qM_firstFree a0 v5 h8) (fun v10 h9 =>
                if v10 < (0 : Int32) then
                  (qM_dodge_59 LF a0 v5 v10 (0 : Int32) h9)
                  else
                  isO h9 a0 9 (bV (qM_gets a0 v5 v10 h9) (fun h11 =>
                    qM_dodge_59 LF a0 v5 v10 (0 : Int32) h11)))))))
            else
            rI (-2 : Int32) h6))))))))
-- LineDiagram.wantsLabel(I)Z
def qD_wantsLabel (a0 : Nat) (x1 : Int32) (h : XH) : XR :=
  gR h a0 8 8 (fun a_1 =>
  gR h a_1 0 4 (fun a_2 =>
    rdI h a_2 x1 (fun v3 =>
      if (0 : Int32) < v3 then
        (gR h a0 8 3 (fun a_4 =>
          gR h a_4 5 5 (fun a_5 =>
            isO h a_5 2 (bI (qLb_positionOf a_5 x1 h) (fun v7 h6 =>
              if v7 < (0 : Int32) then
                (rI (1 : Int32) h6)
                else
                rI (0 : Int32) h6)))))
        else
        rI (0 : Int32) h)))
-- LineDiagram.labelPlaces()I
def qD_labelPlaces_32 (k4 : Nat → Int32 → Int32 → XH → XR) (a0 : Nat) (x1 : Int32) (x2 : Int32) (s0 : Int32) (h : XH) : XR :=
  if s0 < (0 : Int32) then
  (k4 a0 x1 (x2 + (1 : Int32)) h)
  else
  isO h a0 8 (bV (qD_putLabel a0 x2 s0 h) (fun h1 =>
    k4 a0 (x1 + (1 : Int32)) (x2 + (1 : Int32)) h1))
def qD_labelPlaces_4_b (k4 : Nat → Int32 → Int32 → XH → XR) (a0 : Nat) (x1 : Int32) (x2 : Int32) (h : XH) : XR :=
  if x2 < (1600 : Int32) then
  (isO h a0 8 (bI (qD_wantsLabel a0 x2 h) (fun v2 h1 =>
    if v2 = (0 : Int32) then
      (qD_labelPlaces_32 k4 a0 x1 x2 (-2 : Int32) h1)
      else
      gR h1 a0 8 8 (fun a_3 =>
        isO h1 a_3 0 (bI (qB_firstFit a_3 x2 h1) (fun v5 h4 =>
          qD_labelPlaces_32 k4 a0 x1 x2 v5 h4))))))
  else
  rI x1 h
def qD_labelPlaces_4 : Nat → Nat → Int32 → Int32 → XH → XR
  | 0 => fun _ _ _ _ => none
  | n + 1 => qD_labelPlaces_4_b (qD_labelPlaces_4 n)
def qD_labelPlaces (a0 : Nat) (h : XH) : XR :=
  qD_labelPlaces_4 LF a0 (0 : Int32) (0 : Int32) h
-- LineDiagram.labelAll()I
def qD_labelAll (a0 : Nat) (h : XH) : XR :=
  gR h a0 8 7 (fun a_1 =>
  gR h a0 8 3 (fun a_2 =>
    isO h a_1 1 (bV (qH_push a_1 a_2 h) (fun h3 =>
      isO h3 a0 8 (bI (qD_labelPlaces a0 h3) (fun v5 h4 =>
        rI v5 h4))))))
-- LineDiagramModel.labels()I
def qM_labels_37 (k4 : Nat → Int32 → Int32 → XH → XR) (a0 : Nat) (x1 : Int32) (x2 : Int32) (s0 : Int32) (h : XH) : XR :=
  if s0 < (0 : Int32) then
  (k4 a0 x1 (x2 + (1 : Int32)) h)
  else
  isO h a0 9 (bV (qM_gets a0 x2 s0 h) (fun h1 =>
    k4 a0 (x1 + (1 : Int32)) (x2 + (1 : Int32)) h1))
def qM_labels_35 (k4 : Nat → Int32 → Int32 → XH → XR) (a0 : Nat) (x1 : Int32) (x2 : Int32) (h : XH) : XR :=
  qM_labels_37 k4 a0 x1 x2 (-2 : Int32) h
def qM_labels_4_b (k4 : Nat → Int32 → Int32 → XH → XR) (a0 : Nat) (x1 : Int32) (x2 : Int32) (h : XH) : XR :=
  if x2 < (1600 : Int32) then
  (isO h a0 9 (bI (qM_isPlace a0 x2 h) (fun v2 h1 =>
    if v2 = (0 : Int32) then
      (qM_labels_35 k4 a0 x1 x2 h1)
      else
      isO h1 a0 9 (bI (qM_labelOf a0 x2 h1) (fun v4 h3 =>
        if v4 < (0 : Int32) then
          (isO h3 a0 9 (bI (qM_firstFree a0 x2 h3) (fun v6 h5 =>
            qM_labels_37 k4 a0 x1 x2 v6 h5)))
          else
          qM_labels_35 k4 a0 x1 x2 h3)))))
  else
  rI x1 h
def qM_labels_4 : Nat → Nat → Int32 → Int32 → XH → XR
  | 0 => fun _ _ _ _ => none
  | n + 1 => qM_labels_4_b (qM_labels_4 n)
def qM_labels (a0 : Nat) (h : XH) : XR :=
  qM_labels_4 LF a0 (0 : Int32) (0 : Int32) h
-- LineDiagramModel.labelAll()I
def qM_labelAll (a0 : Nat) (h : XH) : XR :=
  isO h a0 9 (bV (qM_remembers a0 h) (fun h1 =>
  isO h1 a0 9 (bV (qM_lays a0 h1) (fun h2 =>
    isO h2 a0 9 (bI (qM_labels a0 h2) (fun v4 h3 =>
      rI v4 h3))))))
-- LineDiagram.isSlot(I)Z
def qD_isSlot (x0 : Int32) (h : XH) : XR :=
  if x0 < (0 : Int32) then
  (rI (0 : Int32) h)
  else
  if x0 < (2 : Int32) then
    (rI (1 : Int32) h)
    else
    rI (0 : Int32) h
-- LineDiagram.keep(I)I
def qD_keep (a0 : Nat) (x1 : Int32) (h : XH) : XR :=
  bI (qD_isSlot x1 h) (fun v2 h1 =>
  if v2 = (0 : Int32) then
    (rI (-1 : Int32) h1)
    else
    gR h1 a0 8 5 (fun a_3 =>
      rdR h1 a_3 x1 (fun a_4 =>
        gR h1 a0 8 3 (fun a_5 =>
          isO h1 a_4 5 (bV (qP_copyFrom a_4 a_5 h1) (fun h6 =>
            gR h6 a0 8 6 (fun a_7 =>
              wrB h6 a_7 x1 (1 : Int32) (fun h8 =>
                gR h8 a0 8 3 (fun a_9 =>
                  gR h8 a_9 5 5 (fun a_10 =>
                    gI h8 a_10 2 0 (fun v11 =>
                      rI v11 h8)))))))))))
-- LineDiagramModel.manyLabels()I
def qM_manyLabels_4_b (k4 : Nat → Int32 → Int32 → XH → XR) (a0 : Nat) (x1 : Int32) (x2 : Int32) (h : XH) : XR :=
  if x2 < (1600 : Int32) then
  (isO h a0 9 (bI (qM_labelOf a0 x2 h) (fun v2 h1 =>
    if v2 < (0 : Int32) then
      (k4 a0 (x1 + (0 : Int32)) (x2 + (1 : Int32)) h1)
      else
      k4 a0 (x1 + (1 : Int32)) (x2 + (1 : Int32)) h1)))
  else
  rI x1 h
def qM_manyLabels_4 : Nat → Nat → Int32 → Int32 → XH → XR
  | 0 => fun _ _ _ _ => none
  | n + 1 => qM_manyLabels_4_b (qM_manyLabels_4 n)
def qM_manyLabels (a0 : Nat) (h : XH) : XR :=
  qM_manyLabels_4 LF a0 (0 : Int32) (0 : Int32) h
-- LineDiagramModel.keep(I)I
def qM_keep_45 (a0 : Nat) (x1 : Int32) (h : XH) : XR :=
  gR h a0 9 12 (fun a_1 =>
  wrB h a_1 x1 (1 : Int32) (fun h2 =>
    isO h2 a0 9 (bI (qM_manyLabels a0 h2) (fun v4 h3 =>
      rI v4 h3))))
def qM_keep_14_b (k14 : Nat → Int32 → Int32 → XH → XR) (a0 : Nat) (x1 : Int32) (x2 : Int32) (h : XH) : XR :=
  if x2 < (1784 : Int32) then
  (gR h a0 9 11 (fun a_1 =>
    gR h a0 9 8 (fun a_2 =>
      rdI h a_2 x2 (fun v3 =>
        wrI h a_1 (((1784 : Int32) * x1) + x2) v3 (fun h4 =>
          k14 a0 x1 (x2 + (1 : Int32)) h4)))))
  else
  qM_keep_45 a0 x1 h
def qM_keep_14 : Nat → Nat → Int32 → Int32 → XH → XR
  | 0 => fun _ _ _ _ => none
  | n + 1 => qM_keep_14_b (qM_keep_14 n)
def qM_keep (a0 : Nat) (x1 : Int32) (h : XH) : XR :=
  bI (qM_in (x1.toInt64) (0 : Int64) (1 : Int64) h) (fun v2 h1 =>
  if v2 = (0 : Int32) then
    (rI (-1 : Int32) h1)
    else
    qM_keep_14 LF a0 x1 (0 : Int32) h1)
