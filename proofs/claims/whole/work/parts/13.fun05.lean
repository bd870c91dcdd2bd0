-- LineDiagramModel.isNewName()Z
def qM_isNewName_16_b (k16 : Nat → Int32 → Int32 → XH → XR) (a0 : Nat) (x1 : Int32) (x2 : Int32) (h : XH) : XR :=
  gI h a0 9 33 (fun v1 =>
  if x2 < v1 then
    (if x1 = (0 : Int32) then
      (k16 a0 (0 : Int32) (x2 + (1 : Int32)) h)
      else
      gR h a0 9 36 (fun a_2 =>
        rdI h a_2 x2 (fun v3 =>
          gI h a0 9 28 (fun v4 =>
            if v3 = v4 then
              (k16 a0 (0 : Int32) (x2 + (1 : Int32)) h)
              else
              k16 a0 (1 : Int32) (x2 + (1 : Int32)) h))))
    else
    rZ x1 h)
def qM_isNewName_16 : Nat → Nat → Int32 → Int32 → XH → XR
  | 0 => fun _ _ _ _ => none
  | n + 1 => qM_isNewName_16_b (qM_isNewName_16 n)
def qM_isNewName (a0 : Nat) (h : XH) : XR :=
  gI h a0 9 25 (fun v1 =>
  if v1 = (1 : Int32) then
    (qM_isNewName_16 LF a0 (1 : Int32) (0 : Int32) h)
    else
    qM_isNewName_16 LF a0 (0 : Int32) (0 : Int32) h)
-- LineDiagramModel.size(I)I
def qM_size (x0 : Int32) (h : XH) : XR :=
  if x0 < (0 : Int32) then
  (rI (-x0) h)
  else
  rI x0 h
-- LineDiagramModel.newX(I)I
def qM_newX (a0 : Nat) (x1 : Int32) (h : XH) : XR :=
  gR h a0 9 37 (fun a_1 =>
  isO h a0 9 (bI (qM_newAt a0 ((3 : Int32) + ((2 : Int32) * x1)) h) (fun v3 h2 =>
    rdI h2 a_1 v3 (fun v4 =>
      rI v4 h2))))
-- LineDiagramModel.newY(I)I
def qM_newY (a0 : Nat) (x1 : Int32) (h : XH) : XR :=
  gR h a0 9 37 (fun a_1 =>
  isO h a0 9 (bI (qM_newAt a0 (((3 : Int32) + ((2 : Int32) * x1)) + (1 : Int32)) h) (fun v3 h2 =>
    rdI h2 a_1 v3 (fun v4 =>
      rI v4 h2))))
-- LineDiagramModel.dx(I)I
def qM_dx (x0 : Int32) (h : XH) : XR :=
  if x0 = (2 : Int32) then
  (rI (0 : Int32) h)
  else
  if x0 = (6 : Int32) then
    (rI (0 : Int32) h)
    else
    if (2 : Int32) < x0 then
      (if x0 < (6 : Int32) then
        (rI (-1 : Int32) h)
        else
        rI (1 : Int32) h)
      else
      rI (1 : Int32) h
-- LineDiagramModel.sign(I)I
def qM_sign (x0 : Int32) (h : XH) : XR :=
  if x0 < (0 : Int32) then
  (rI (-1 : Int32) h)
  else
  if (0 : Int32) < x0 then
    (rI (1 : Int32) h)
    else
    rI (0 : Int32) h
-- LineDiagramModel.dy(I)I
def qM_dy (x0 : Int32) (h : XH) : XR :=
  if x0 = (0 : Int32) then
  (rI (0 : Int32) h)
  else
  if x0 = (4 : Int32) then
    (rI (0 : Int32) h)
    else
    if x0 < (4 : Int32) then
      (rI (1 : Int32) h)
      else
      rI (-1 : Int32) h
-- LineDiagramModel.wayTo(IIII)I
def qM_wayTo_49_b (k49 : Int32 → Int32 → Int32 → XH → XR) (x4 : Int32) (x5 : Int32) (x6 : Int32) (h : XH) : XR :=
  bI (qM_dx x6 h) (fun v2 h1 =>
  bI (qM_sign x4 h1) (fun v4 h3 =>
    if v2 = v4 then
      (bI (qM_dy x6 h3) (fun v6 h5 =>
        bI (qM_sign x5 h5) (fun v8 h7 =>
          if v6 = v8 then
            (rI x6 h7)
            else
            k49 x4 x5 (x6 + (1 : Int32)) h7)))
      else
      k49 x4 x5 (x6 + (1 : Int32)) h3))
def qM_wayTo_49 : Nat → Int32 → Int32 → Int32 → XH → XR
  | 0 => fun _ _ _ _ => none
  | n + 1 => qM_wayTo_49_b (qM_wayTo_49 n)
def qM_wayTo_20 (x4 : Int32) (x5 : Int32) (h : XH) : XR :=
  if x4 = (0 : Int32) then
  (qM_wayTo_49 LF x4 x5 (0 : Int32) h)
  else
  if x5 = (0 : Int32) then
    (qM_wayTo_49 LF x4 x5 (0 : Int32) h)
    else
    bI (qM_size x4 h) (fun v2 h1 =>
      bI (qM_size x5 h1) (fun v4 h3 =>
        if v2 = v4 then
          (qM_wayTo_49 LF x4 x5 (0 : Int32) h3)
          else
          rI (-2 : Int32) h3))
def qM_wayTo (x0 : Int32) (x1 : Int32) (x2 : Int32) (x3 : Int32) (h : XH) : XR :=
  if (x2 - x0) = (0 : Int32) then
  (if (x3 - x1) = (0 : Int32) then
    (rI (-2 : Int32) h)
    else
    qM_wayTo_20 (x2 - x0) (x3 - x1) h)
  else
  qM_wayTo_20 (x2 - x0) (x3 - x1) h
-- LineDiagramModel.turnOf(II)I
def qM_turnOf (x0 : Int32) (x1 : Int32) (h : XH) : XR :=
  bI (qM_size (x0 - x1) h) (fun v2 h1 =>
  if (4 : Int32) < v2 then
    (rI ((8 : Int32) - v2) h1)
    else
    rI v2 h1)
-- LineDiagramModel.canRun(II)Z
def qM_canRun_30 (a0 : Nat) (x3 : Int32) (s0 : Int32) (h : XH) : XR :=
  if s0 < (0 : Int32) then
  (rI (0 : Int32) h)
  else
  if x3 < (1 : Int32) then
    (rI (1 : Int32) h)
    else
    isO h a0 9 (bI (qM_newX a0 (x3 - (1 : Int32)) h) (fun v2 h1 =>
      isO h1 a0 9 (bI (qM_newY a0 (x3 - (1 : Int32)) h1) (fun v4 h3 =>
        isO h3 a0 9 (bI (qM_newX a0 x3 h3) (fun v6 h5 =>
          isO h5 a0 9 (bI (qM_newY a0 x3 h5) (fun v8 h7 =>
            bI (qM_wayTo v2 v4 v6 v8 h7) (fun v10 h9 =>
              bI (qM_turnOf v10 s0 h9) (fun v12 h11 =>
                gI h11 a0 9 32 (fun v13 =>
                  if v13 < v12 then
                    (rI (0 : Int32) h11)
                    else
                    rI (1 : Int32) h11)))))))))))
def qM_canRun (a0 : Nat) (x1 : Int32) (x2 : Int32) (h : XH) : XR :=
  gI h a0 9 34 (fun v1 =>
  if (v1 - (1 : Int32)) < (0 : Int32) then
    (qM_canRun_30 a0 (v1 - (1 : Int32)) (0 : Int32) h)
    else
    isO h a0 9 (bI (qM_newX a0 (v1 - (1 : Int32)) h) (fun v3 h2 =>
      isO h2 a0 9 (bI (qM_newY a0 (v1 - (1 : Int32)) h2) (fun v5 h4 =>
        bI (qM_wayTo v3 v5 x1 x2 h4) (fun v7 h6 =>
          qM_canRun_30 a0 (v1 - (1 : Int32)) v7 h6))))))
-- LineDiagramModel.readPoint()V
def qM_readPoint_153 (a0 : Nat) (x1 : Int32) (x2 : Int32) (h : XH) : XR :=
  gR h a0 9 37 (fun a_1 =>
  gI h a0 9 34 (fun v2 =>
    isO h a0 9 (bI (qM_newAt a0 ((3 : Int32) + ((2 : Int32) * v2)) h) (fun v4 h3 =>
      wrI h3 a_1 v4 x1 (fun h5 =>
        gR h5 a0 9 37 (fun a_6 =>
          gI h5 a0 9 34 (fun v7 =>
            isO h5 a0 9 (bI (qM_newAt a0 (((3 : Int32) + ((2 : Int32) * v7)) + (1 : Int32)) h5) (fun v9 h8 =>
              wrI h8 a_6 v9 x2 (fun h10 =>
                gI h10 a0 9 34 (fun v11 =>
                  pV h10 a0 9 34 (.int (v11 + (1 : Int32))) (fun h12 =>
                    rV h12))))))))))))
def qM_readPoint_149 (a0 : Nat) (x1 : Int32) (x2 : Int32) (s0 : Int32) (s1 : Int32) (s2 : Nat) (h : XH) : XR :=
  pV h s2 9 35 (.int (s1 + s0)) (fun h1 =>
  qM_readPoint_153 a0 x1 x2 h1)
def qM_readPoint_81 (a0 : Nat) (x1 : Int32) (x2 : Int32) (s0 : Int32) (s1 : Nat) (h : XH) : XR :=
  isO h s1 9 (bV (qM_takes s1 s0 h) (fun h1 =>
  gI h1 a0 9 29 (fun v2 =>
    if v2 = (0 : Int32) then
      (rV h1)
      else
      gI h1 a0 9 34 (fun v3 =>
        if (0 : Int32) < v3 then
          (gI h1 a0 9 34 (fun v4 =>
            isO h1 a0 9 (bI (qM_newX a0 (v4 - (1 : Int32)) h1) (fun v6 h5 =>
              bI (qM_size (x1 - v6) h5) (fun v8 h7 =>
                gI h7 a0 9 34 (fun v9 =>
                  isO h7 a0 9 (bI (qM_newY a0 (v9 - (1 : Int32)) h7) (fun v11 h10 =>
                    bI (qM_size (x2 - v11) h10) (fun v13 h12 =>
                      gI h12 a0 9 35 (fun v14 =>
                        if v13 < v8 then
                        (qM_readPoint_149 a0 x1 x2 v8 v14 a0 h12)
                        else
                        qM_readPoint_149 a0 x1 x2 v13 v14 a0 h12))))))))))
          else
          qM_readPoint_153 a0 x1 x2 h1))))
def qM_readPoint_76 (a0 : Nat) (x1 : Int32) (x2 : Int32) (s0 : Nat) (h : XH) : XR :=
  qM_readPoint_81 a0 x1 x2 (1 : Int32) s0 h
def qM_readPoint_80 (a0 : Nat) (x1 : Int32) (x2 : Int32) (s0 : Nat) (h : XH) : XR :=
  qM_readPoint_81 a0 x1 x2 (0 : Int32) s0 h
def qM_readPoint_25 (a0 : Nat) (s0 : Int32) (s1 : Nat) (h : XH) : XR :=
  isO h s1 9 (bV (qM_takes s1 s0 h) (fun h1 =>
  gI h1 a0 9 30 (fun v2 =>
    isO h1 a0 9 (bI (qM_numberIn a0 (0 : Int32) (v2 - (1 : Int32)) h1) (fun v4 h3 =>
      gI h3 a0 9 27 (fun v5 =>
        gI h3 a0 9 31 (fun v6 =>
          isO h3 a0 9 (bI (qM_isInt a0 (0 : Int32) (v6 - (1 : Int32)) h3) (fun v8 h7 =>
            if v8 = (0 : Int32) then
              (qM_readPoint_80 a0 v4 v5 a0 h7)
              else
              gI h7 a0 9 29 (fun v9 =>
                if v9 = (0 : Int32) then
                  (qM_readPoint_76 a0 v4 v5 a0 h7)
                  else
                  isO h7 a0 9 (bI (qM_canRun a0 v4 v5 h7) (fun v11 h10 =>
                    if v11 = (0 : Int32) then
                      (qM_readPoint_80 a0 v4 v5 a0 h10)
                      else
                      qM_readPoint_76 a0 v4 v5 a0 h10))))))))))))
def qM_readPoint_24 (a0 : Nat) (s0 : Nat) (h : XH) : XR :=
  qM_readPoint_25 a0 (0 : Int32) s0 h
def qM_readPoint (a0 : Nat) (h : XH) : XR :=
  isO h a0 9 (bI (qM_isHere a0 (52 : Int64) h) (fun v2 h1 =>
  if v2 = (0 : Int32) then
    (qM_readPoint_24 a0 a0 h1)
    else
    gI h1 a0 9 34 (fun v3 =>
      if v3 < (10 : Int32) then
        (qM_readPoint_25 a0 (1 : Int32) a0 h1)
        else
        qM_readPoint_24 a0 a0 h1)))
-- LineDiagramModel.readLine()V
def qM_readLine_130 (a0 : Nat) (x1 : Int32) (x2 : Int32) (x3 : Int32) (s0 : Int32) (s1 : Nat) (h : XH) : XR :=
  isO h s1 9 (bV (qM_takes s1 s0 h) (fun h1 =>
  gI h1 a0 9 29 (fun v2 =>
    if v2 = (0 : Int32) then
      (rV h1)
      else
      gR h1 a0 9 36 (fun a_3 =>
        gI h1 a0 9 33 (fun v4 =>
          wrI h1 a_3 v4 x1 (fun h5 =>
            gR h5 a0 9 37 (fun a_6 =>
              isO h5 a0 9 (bI (qM_newAt a0 (0 : Int32) h5) (fun v8 h7 =>
                wrI h7 a_6 v8 x2 (fun h9 =>
                  gR h9 a0 9 37 (fun a_10 =>
                    isO h9 a0 9 (bI (qM_newAt a0 (1 : Int32) h9) (fun v12 h11 =>
                      wrI h11 a_10 v12 x3 (fun h13 =>
                        gR h13 a0 9 37 (fun a_14 =>
                        isO h13 a0 9 (bI (qM_newAt a0 (2 : Int32) h13) (fun v16 h15 =>
                        gI h15 a0 9 34 (fun v17 =>
                        wrI h15 a_14 v16 v17 (fun h18 =>
                        gI h18 a0 9 33 (fun v19 =>
                        pV h18 a0 9 33 (.int (v19 + (1 : Int32))) (fun h20 =>
                        rV h20)))))))))))))))))))))
def qM_readLine_129 (a0 : Nat) (x1 : Int32) (x2 : Int32) (x3 : Int32) (s0 : Nat) (h : XH) : XR :=
  qM_readLine_130 a0 x1 x2 x3 (0 : Int32) s0 h
def qM_readLine_106 (a0 : Nat) (x1 : Int32) (x2 : Int32) (x3 : Int32) (h : XH) : XR :=
  gI h a0 9 25 (fun v1 =>
  if v1 = (4 : Int32) then
    (gI h a0 9 35 (fun v2 =>
      if v2 < (x3 - (1 : Int32)) then
        (qM_readLine_129 a0 x1 x2 x3 a0 h)
        else
        qM_readLine_130 a0 x1 x2 x3 (1 : Int32) a0 h))
    else
    qM_readLine_129 a0 x1 x2 x3 a0 h)
def qM_readLine_89_b (k89 : Nat → Int32 → Int32 → Int32 → XH → XR) (a0 : Nat) (x1 : Int32) (x2 : Int32) (x3 : Int32) (h : XH) : XR :=
  isO h a0 9 (bI (qM_isHere a0 (52 : Int64) h) (fun v2 h1 =>
  if v2 = (0 : Int32) then
    (qM_readLine_106 a0 x1 x2 x3 h1)
    else
    isO h1 a0 9 (bV (qM_readPoint a0 h1) (fun h3 =>
      k89 a0 x1 x2 x3 h3))))
def qM_readLine_89 : Nat → Nat → Int32 → Int32 → Int32 → XH → XR
  | 0 => fun _ _ _ _ _ => none
  | n + 1 => qM_readLine_89_b (qM_readLine_89 n)
def qM_readLine_25 (a0 : Nat) (s0 : Int32) (s1 : Nat) (h : XH) : XR :=
  isO h s1 9 (bV (qM_takes s1 s0 h) (fun h1 =>
  gI h1 a0 9 28 (fun v2 =>
    isO h1 a0 9 (bI (qM_isNewName a0 h1) (fun v4 h3 =>
      isO h3 a0 9 (bV (qM_takes a0 v4 h3) (fun h5 =>
        isO h5 a0 9 (bI (qM_numberOf a0 (632645 : Int64) (1 : Int32) (10 : Int32) h5) (fun v7 h6 =>
          isO h6 a0 9 (bI (qM_numberOf a0 (20594195 : Int64) (2 : Int32) (20 : Int32) h6) (fun v9 h8 =>
            pV h8 a0 9 34 (.int (0 : Int32)) (fun h10 =>
              pV h10 a0 9 35 (.int (0 : Int32)) (fun h11 =>
                gI h11 a0 9 29 (fun v12 =>
                  if v12 = (0 : Int32) then
                    (rV h11)
                    else
                    isO h11 a0 9 (bV (qM_readPoint a0 h11) (fun h13 =>
                      isO h13 a0 9 (bV (qM_readPoint a0 h13) (fun h14 =>
                        qM_readLine_89 LF a0 v2 v7 v9 h14))))))))))))))))))
def qM_readLine_24 (a0 : Nat) (s0 : Nat) (h : XH) : XR :=
  qM_readLine_25 a0 (0 : Int32) s0 h
def qM_readLine (a0 : Nat) (h : XH) : XR :=
  isO h a0 9 (bI (qM_isHere a0 (402885 : Int64) h) (fun v2 h1 =>
  if v2 = (0 : Int32) then
    (qM_readLine_24 a0 a0 h1)
    else
    gI h1 a0 9 33 (fun v3 =>
      if v3 < (8 : Int32) then
        (qM_readLine_25 a0 (1 : Int32) a0 h1)
        else
        qM_readLine_24 a0 a0 h1)))
