-- LineDiagramModel.laysLines()V
def qM_laysLines_147 (k67 : Nat → Int32 → XH → XR) (a0 : Nat) (x1 : Int32) (h : XH) : XR :=
  isO h a0 9 (bV (qM_laysStations a0 x1 h) (fun h1 =>
  k67 a0 (x1 + (1 : Int32)) h1))
def qM_laysLines_123_b (k67 : Nat → Int32 → XH → XR) (k123 : Nat → Int32 → Int32 → XH → XR) (a0 : Nat) (x1 : Int32) (x3 : Int32) (h : XH) : XR :=
  isO h a0 9 (bI (qM_of a0 x1 (2 : Int32) h) (fun v2 h1 =>
  if (x3 + (1 : Int32)) < v2 then
    (isO h1 a0 9 (bV (qM_laysRun a0 x1 x3 h1) (fun h3 =>
      k123 a0 x1 (x3 + (1 : Int32)) h3)))
    else
    qM_laysLines_147 k67 a0 x1 h1))
def qM_laysLines_123 (k67 : Nat → Int32 → XH → XR) : Nat → Nat → Int32 → Int32 → XH → XR
  | 0 => fun _ _ _ _ => none
  | n + 1 => qM_laysLines_123_b k67 (qM_laysLines_123 k67 n)
def qM_laysLines_67_b (k67 : Nat → Int32 → XH → XR) (a0 : Nat) (x1 : Int32) (h : XH) : XR :=
  gI h a0 9 6 (fun v1 =>
  if x1 < v1 then
    (isO h a0 9 (bI (qM_px a0 x1 (0 : Int32) h) (fun v3 h2 =>
      isO h2 a0 9 (bI (qM_py a0 x1 (0 : Int32) h2) (fun v5 h4 =>
        bI (qM_cell v3 v5 h4) (fun v7 h6 =>
          gR h6 a0 9 14 (fun a_8 =>
            wrI h6 a_8 x1 (0 : Int32) (fun h9 =>
              gR h9 a0 9 15 (fun a_10 =>
                wrI h9 a_10 ((400 : Int32) * x1) v7 (fun h11 =>
                  gR h11 a0 9 16 (fun a_12 =>
                    rdI h11 a_12 v7 (fun v13 =>
                      wrI h11 a_12 v7 (v13 ||| (jshl (1 : Int32) x1)) (fun h14 =>
                        qM_laysLines_123 k67 LF a0 x1 (0 : Int32) h14)))))))))))))
    else
    rV h)
def qM_laysLines_67 : Nat → Nat → Int32 → XH → XR
  | 0 => fun _ _ _ => none
  | n + 1 => qM_laysLines_67_b (qM_laysLines_67 n)
def qM_laysLines_45_b (k45 : Nat → Int32 → XH → XR) (a0 : Nat) (x1 : Int32) (h : XH) : XR :=
  if x1 < (6400 : Int32) then
  (gR h a0 9 17 (fun a_1 =>
    wrI h a_1 x1 (0 : Int32) (fun h2 =>
      k45 a0 (x1 + (1 : Int32)) h2)))
  else
  qM_laysLines_67 LF a0 (0 : Int32) h
def qM_laysLines_45 : Nat → Nat → Int32 → XH → XR
  | 0 => fun _ _ _ => none
  | n + 1 => qM_laysLines_45_b (qM_laysLines_45 n)
def qM_laysLines_2_b (k2 : Nat → Int32 → XH → XR) (a0 : Nat) (x1 : Int32) (h : XH) : XR :=
  if x1 < (1600 : Int32) then
  (gR h a0 9 16 (fun a_1 =>
    wrI h a_1 x1 (0 : Int32) (fun h2 =>
      gR h2 a0 9 18 (fun a_3 =>
        wrI h2 a_3 x1 (0 : Int32) (fun h4 =>
          gR h4 a0 9 19 (fun a_5 =>
            wrI h4 a_5 x1 (0 : Int32) (fun h6 =>
              gR h6 a0 9 20 (fun a_7 =>
                wrI h6 a_7 x1 (0 : Int32) (fun h8 =>
                  k2 a0 (x1 + (1 : Int32)) h8)))))))))
  else
  qM_laysLines_45 LF a0 (0 : Int32) h
def qM_laysLines_2 : Nat → Nat → Int32 → XH → XR
  | 0 => fun _ _ _ => none
  | n + 1 => qM_laysLines_2_b (qM_laysLines_2 n)
def qM_laysLines (a0 : Nat) (h : XH) : XR :=
  qM_laysLines_2 LF a0 (0 : Int32) h
-- LineDiagramModel.clearsLabels()V
def qM_clearsLabels_2_b (k2 : Nat → Int32 → XH → XR) (a0 : Nat) (x1 : Int32) (h : XH) : XR :=
  if x1 < (1600 : Int32) then
  (gR h a0 9 21 (fun a_1 =>
    wrI h a_1 x1 (-2 : Int32) (fun h2 =>
      k2 a0 (x1 + (1 : Int32)) h2)))
  else
  rV h
def qM_clearsLabels_2 : Nat → Nat → Int32 → XH → XR
  | 0 => fun _ _ _ => none
  | n + 1 => qM_clearsLabels_2_b (qM_clearsLabels_2 n)
def qM_clearsLabels (a0 : Nat) (h : XH) : XR :=
  qM_clearsLabels_2 LF a0 (0 : Int32) h
-- LineDiagramModel.isPlace(I)Z
def qM_isPlace (a0 : Nat) (x1 : Int32) (h : XH) : XR :=
  gR h a0 9 18 (fun a_1 =>
  rdI h a_1 x1 (fun v2 =>
    if (0 : Int32) < v2 then
      (rI (1 : Int32) h)
      else
      rI (0 : Int32) h))
-- LineDiagramModel.isOff(II)Z
def qM_isOff (a0 : Nat) (x1 : Int32) (x2 : Int32) (h : XH) : XR :=
  isO h a0 9 (bI (qM_columnOf a0 x1 x2 h) (fun v2 h1 =>
  if v2 < (0 : Int32) then
    (rI (1 : Int32) h1)
    else
    gR h1 a0 9 20 (fun a_3 =>
      rdI h1 a_3 x1 (fun v4 =>
        gI h1 a0 9 3 (fun v5 =>
          if v5 < (v2 + v4) then
            (rI (1 : Int32) h1)
            else
            bI (qM_rowOf x1 x2 h1) (fun v7 h6 =>
              gI h6 a0 9 4 (fun v8 =>
                bI (qM_in (v7.toInt64) (0 : Int64) ((v8 - (1 : Int32)).toInt64) h6) (fun v10 h9 =>
                  if v10 = (0 : Int32) then
                    (rI (1 : Int32) h9)
                    else
                    rI (0 : Int32) h9))))))))
-- LineDiagramModel.isOnLine(II)Z
def qM_isOnLine_49 (k21 : Nat → Int32 → Int32 → Int32 → Int32 → XH → XR) (a0 : Nat) (x1 : Int32) (x3 : Int32) (x5 : Int32) (h : XH) : XR :=
  k21 a0 x1 x3 (1 : Int32) (x5 + (1 : Int32)) h
def qM_isOnLine_21_b (k21 : Nat → Int32 → Int32 → Int32 → Int32 → XH → XR) (a0 : Nat) (x1 : Int32) (x3 : Int32) (x4 : Int32) (x5 : Int32) (h : XH) : XR :=
  gR h a0 9 20 (fun a_1 =>
  rdI h a_1 x1 (fun v2 =>
    if x5 < v2 then
      (if x4 = (0 : Int32) then
        (gR h a0 9 16 (fun a_3 =>
          rdI h a_3 (x3 + x5) (fun v4 =>
            if v4 = (0 : Int32) then
              (k21 a0 x1 x3 (0 : Int32) (x5 + (1 : Int32)) h)
              else
              qM_isOnLine_49 k21 a0 x1 x3 x5 h)))
        else
        qM_isOnLine_49 k21 a0 x1 x3 x5 h)
      else
      rZ x4 h))
def qM_isOnLine_21 : Nat → Nat → Int32 → Int32 → Int32 → Int32 → XH → XR
  | 0 => fun _ _ _ _ _ _ => none
  | n + 1 => qM_isOnLine_21_b (qM_isOnLine_21 n)
def qM_isOnLine (a0 : Nat) (x1 : Int32) (x2 : Int32) (h : XH) : XR :=
  isO h a0 9 (bI (qM_columnOf a0 x1 x2 h) (fun v2 h1 =>
  bI (qM_rowOf x1 x2 h1) (fun v4 h3 =>
    bI (qM_cell v2 v4 h3) (fun v6 h5 =>
      qM_isOnLine_21 LF a0 x1 v6 (0 : Int32) (0 : Int32) h5))))
-- LineDiagramModel.others(II)I
def qM_others_27_b (k27 : Nat → Int32 → Int32 → Int32 → Int32 → XH → XR) (a0 : Nat) (x1 : Int32) (x3 : Int32) (x4 : Int32) (x5 : Int32) (h : XH) : XR :=
  gR h a0 9 20 (fun a_1 =>
  rdI h a_1 x1 (fun v2 =>
    if x5 < v2 then
      (gR h a0 9 21 (fun a_3 =>
        rdI h a_3 (x3 + x5) (fun v4 =>
          if v4 < (0 : Int32) then
            (k27 a0 x1 x3 x4 (x5 + (1 : Int32)) h)
            else
            if v4 = x1 then
              (k27 a0 x1 x3 x4 (x5 + (1 : Int32)) h)
              else
              gI h a0 9 22 (fun v5 =>
                if v4 = v5 then
                  (k27 a0 x1 x3 x4 (x5 + (1 : Int32)) h)
                  else
                  pV h a0 9 22 (.int v4) (fun h6 =>
                    k27 a0 x1 x3 (x4 + (1 : Int32)) (x5 + (1 : Int32)) h6)))))
      else
      rI x4 h))
def qM_others_27 : Nat → Nat → Int32 → Int32 → Int32 → Int32 → XH → XR
  | 0 => fun _ _ _ _ _ _ => none
  | n + 1 => qM_others_27_b (qM_others_27 n)
def qM_others (a0 : Nat) (x1 : Int32) (x2 : Int32) (h : XH) : XR :=
  isO h a0 9 (bI (qM_columnOf a0 x1 x2 h) (fun v2 h1 =>
  bI (qM_rowOf x1 x2 h1) (fun v4 h3 =>
    bI (qM_cell v2 v4 h3) (fun v6 h5 =>
      pV h5 a0 9 22 (.int (-2 : Int32)) (fun h7 =>
        qM_others_27 LF a0 x1 v6 (0 : Int32) (0 : Int32) h7)))))
-- LineDiagramModel.whyNot(II)I
def qM_whyNot (a0 : Nat) (x1 : Int32) (x2 : Int32) (h : XH) : XR :=
  isO h a0 9 (bI (qM_isOff a0 x1 x2 h) (fun v2 h1 =>
  if v2 = (0 : Int32) then
    (isO h1 a0 9 (bI (qM_isOnLine a0 x1 x2 h1) (fun v4 h3 =>
      if v4 = (0 : Int32) then
        (isO h3 a0 9 (bI (qM_others a0 x1 x2 h3) (fun v6 h5 =>
          if (0 : Int32) < v6 then
            (rI (-7 : Int32) h5)
            else
            rI (0 : Int32) h5)))
        else
        rI (-6 : Int32) h3)))
    else
    rI (-5 : Int32) h1))
-- LineDiagramModel.refits()I
def qM_refits_65 (k12 : Nat → Int32 → Int32 → XH → XR) (a0 : Nat) (x1 : Int32) (x2 : Int32) (h : XH) : XR :=
  gR h a0 9 8 (fun a_1 =>
  wrI h a_1 ((184 : Int32) + x2) (-2 : Int32) (fun h2 =>
    k12 a0 (x1 + (1 : Int32)) (x2 + (1 : Int32)) h2))
def qM_refits_12_b (k12 : Nat → Int32 → Int32 → XH → XR) (a0 : Nat) (x1 : Int32) (x2 : Int32) (h : XH) : XR :=
  if x2 < (1600 : Int32) then
  (isO h a0 9 (bI (qM_labelOf a0 x2 h) (fun v2 h1 =>
    if v2 < (0 : Int32) then
      (k12 a0 x1 (x2 + (1 : Int32)) h1)
      else
      isO h1 a0 9 (bI (qM_isPlace a0 x2 h1) (fun v4 h3 =>
        if v4 = (0 : Int32) then
          (qM_refits_65 k12 a0 x1 x2 h3)
          else
          isO h3 a0 9 (bI (qM_labelOf a0 x2 h3) (fun v6 h5 =>
            isO h5 a0 9 (bI (qM_whyNot a0 x2 v6 h5) (fun v8 h7 =>
              if v8 = (0 : Int32) then
                (isO h7 a0 9 (bI (qM_labelOf a0 x2 h7) (fun v10 h9 =>
                  isO h9 a0 9 (bV (qM_laysLabel a0 x2 v10 x2 h9) (fun h11 =>
                    k12 a0 x1 (x2 + (1 : Int32)) h11)))))
                else
                qM_refits_65 k12 a0 x1 x2 h7)))))))))
  else
  rI x1 h
def qM_refits_12 : Nat → Nat → Int32 → Int32 → XH → XR
  | 0 => fun _ _ _ _ => none
  | n + 1 => qM_refits_12_b (qM_refits_12 n)
def qM_refits (a0 : Nat) (h : XH) : XR :=
  isO h a0 9 (bV (qM_laysLines a0 h) (fun h1 =>
  isO h1 a0 9 (bV (qM_clearsLabels a0 h1) (fun h2 =>
    qM_refits_12 LF a0 (0 : Int32) (0 : Int32) h2))))
-- LineDiagramModel.swaps()V
def qM_swaps_2_b (k2 : Nat → Int32 → XH → XR) (a0 : Nat) (x1 : Int32) (h : XH) : XR :=
  if x1 < (1784 : Int32) then
  (gR h a0 9 8 (fun a_1 =>
    rdI h a_1 x1 (fun v2 =>
      gR h a0 9 8 (fun a_3 =>
        gR h a0 9 9 (fun a_4 =>
          rdI h a_4 x1 (fun v5 =>
            wrI h a_3 x1 v5 (fun h6 =>
              gR h6 a0 9 9 (fun a_7 =>
                wrI h6 a_7 x1 v2 (fun h8 =>
                  k2 a0 (x1 + (1 : Int32)) h8)))))))))
  else
  rV h
def qM_swaps_2 : Nat → Nat → Int32 → XH → XR
  | 0 => fun _ _ _ => none
  | n + 1 => qM_swaps_2_b (qM_swaps_2 n)
def qM_swaps (a0 : Nat) (h : XH) : XR :=
  qM_swaps_2 LF a0 (0 : Int32) h
-- LineDiagramModel.remembers()V
def qM_remembers_88 (a0 : Nat) (h : XH) : XR :=
  gI h a0 9 13 (fun v1 =>
  pV h a0 9 13 (.int (v1 + (1 : Int32))) (fun h2 =>
    rV h2))
def qM_remembers_54_b (k54 : Nat → Int32 → XH → XR) (a0 : Nat) (x1 : Int32) (h : XH) : XR :=
  if x1 < (1784 : Int32) then
  (gR h a0 9 10 (fun a_1 =>
    gI h a0 9 13 (fun v2 =>
      gR h a0 9 8 (fun a_3 =>
        rdI h a_3 x1 (fun v4 =>
          wrI h a_1 (((1784 : Int32) * v2) + x1) v4 (fun h5 =>
            k54 a0 (x1 + (1 : Int32)) h5))))))
  else
  qM_remembers_88 a0 h
def qM_remembers_54 : Nat → Nat → Int32 → XH → XR
  | 0 => fun _ _ _ => none
  | n + 1 => qM_remembers_54_b (qM_remembers_54 n)
def qM_remembers_42 (a0 : Nat) (h : XH) : XR :=
  gI h a0 9 13 (fun v1 =>
  pV h a0 9 13 (.int (v1 - (1 : Int32))) (fun h2 =>
    qM_remembers_54 LF a0 (0 : Int32) h2))
def qM_remembers_13_b (k13 : Nat → Int32 → XH → XR) (a0 : Nat) (x1 : Int32) (h : XH) : XR :=
  if x1 < (14272 : Int32) then
  (gR h a0 9 10 (fun a_1 =>
    gR h a0 9 10 (fun a_2 =>
      rdI h a_2 x1 (fun v3 =>
        wrI h a_1 (x1 - (1784 : Int32)) v3 (fun h4 =>
          k13 a0 (x1 + (1 : Int32)) h4)))))
  else
  qM_remembers_42 a0 h
def qM_remembers_13 : Nat → Nat → Int32 → XH → XR
  | 0 => fun _ _ _ => none
  | n + 1 => qM_remembers_13_b (qM_remembers_13 n)
def qM_remembers (a0 : Nat) (h : XH) : XR :=
  gI h a0 9 13 (fun v1 =>
  if v1 = (8 : Int32) then
    (qM_remembers_13 LF a0 (1784 : Int32) h)
    else
    qM_remembers_54 LF a0 (0 : Int32) h)
-- LineDiagramModel.settles(I)I
def qM_settles (a0 : Nat) (x1 : Int32) (h : XH) : XR :=
  isO h a0 9 (bI (qM_faultOf a0 x1 h) (fun v2 h1 =>
  if v2 < (0 : Int32) then
    (isO h1 a0 9 (bV (qM_comesBack a0 h1) (fun h8 =>
      rI v2 h8)))
    else
    isO h1 a0 9 (bI (qM_refits a0 h1) (fun v4 h3 =>
      isO h3 a0 9 (bV (qM_swaps a0 h3) (fun h5 =>
        isO h5 a0 9 (bV (qM_remembers a0 h5) (fun h6 =>
          isO h6 a0 9 (bV (qM_swaps a0 h6) (fun h7 =>
            rI v4 h7))))))))))
-- LineDiagramModel.moveBend(IIII)I
def qM_moveBend (a0 : Nat) (x1 : Int32) (x2 : Int32) (x3 : Int32) (x4 : Int32) (h : XH) : XR :=
  isO h a0 9 (bI (qM_moveFault a0 x1 x2 x3 x4 h) (fun v2 h1 =>
  if v2 < (0 : Int32) then
    (rI v2 h1)
    else
    isO h1 a0 9 (bV (qM_thinks a0 h1) (fun h3 =>
      isO h3 a0 9 (bV (qM_putsPoint a0 x1 x2 x3 x4 h3) (fun h4 =>
        isO h4 a0 9 (bI (qM_settles a0 x1 h4) (fun v6 h5 =>
          rI v6 h5))))))))
