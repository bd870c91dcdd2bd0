-- LineDiagramModel.py(II)I
def qM_py (a0 : Nat) (x1 : Int32) (x2 : Int32) (h : XH) : XR :=
  isO h a0 9 (bI (qM_of a0 x1 (((3 : Int32) + ((2 : Int32) * x2)) + (1 : Int32)) h) (fun v2 h1 =>
  rI v2 h1))
-- LineDiagramModel.isLine(I)Z
def qM_isLine (a0 : Nat) (x1 : Int32) (h : XH) : XR :=
  gI h a0 9 6 (fun v1 =>
  bI (qM_in (x1.toInt64) (0 : Int64) ((v1 - (1 : Int32)).toInt64) h) (fun v3 h2 =>
    rZ v3 h2))
-- LineDiagramModel.isPoint(II)Z
def qM_isPoint (a0 : Nat) (x1 : Int32) (x2 : Int32) (h : XH) : XR :=
  isO h a0 9 (bI (qM_isLine a0 x1 h) (fun v2 h1 =>
  if v2 = (0 : Int32) then
    (rI (0 : Int32) h1)
    else
    isO h1 a0 9 (bI (qM_of a0 x1 (2 : Int32) h1) (fun v4 h3 =>
      bI (qM_in (x2.toInt64) (0 : Int64) ((v4 - (1 : Int32)).toInt64) h3) (fun v6 h5 =>
        if v6 = (0 : Int32) then
          (rI (0 : Int32) h5)
          else
          rI (1 : Int32) h5)))))
-- LineDiagramModel.isCell(II)Z
def qM_isCell (a0 : Nat) (x1 : Int32) (x2 : Int32) (h : XH) : XR :=
  gI h a0 9 3 (fun v1 =>
  bI (qM_in (x1.toInt64) (0 : Int64) ((v1 - (1 : Int32)).toInt64) h) (fun v3 h2 =>
    if v3 = (0 : Int32) then
      (rI (0 : Int32) h2)
      else
      gI h2 a0 9 4 (fun v4 =>
        bI (qM_in (x2.toInt64) (0 : Int64) ((v4 - (1 : Int32)).toInt64) h2) (fun v6 h5 =>
          if v6 = (0 : Int32) then
            (rI (0 : Int32) h5)
            else
            rI (1 : Int32) h5))))
-- LineDiagramModel.moveFault(IIII)I
def qM_moveFault (a0 : Nat) (x1 : Int32) (x2 : Int32) (x3 : Int32) (x4 : Int32) (h : XH) : XR :=
  isO h a0 9 (bI (qM_isPoint a0 x1 x2 h) (fun v2 h1 =>
  if v2 = (0 : Int32) then
    (rI (-1 : Int32) h1)
    else
    isO h1 a0 9 (bI (qM_isCell a0 x3 x4 h1) (fun v4 h3 =>
      if v4 = (0 : Int32) then
        (rI (-1 : Int32) h3)
        else
        isO h3 a0 9 (bI (qM_px a0 x1 x2 h3) (fun v6 h5 =>
          if v6 = x3 then
            (isO h5 a0 9 (bI (qM_py a0 x1 x2 h5) (fun v8 h7 =>
              if v8 = x4 then
                (rI (-2 : Int32) h7)
                else
                rI (0 : Int32) h7)))
            else
            rI (0 : Int32) h5))))))
-- LineDiagramModel.thinks()V
def qM_thinks_2_b (k2 : Nat → Int32 → XH → XR) (a0 : Nat) (x1 : Int32) (h : XH) : XR :=
  if x1 < (1784 : Int32) then
  (gR h a0 9 9 (fun a_1 =>
    gR h a0 9 8 (fun a_2 =>
      rdI h a_2 x1 (fun v3 =>
        wrI h a_1 x1 v3 (fun h4 =>
          k2 a0 (x1 + (1 : Int32)) h4)))))
  else
  rV h
def qM_thinks_2 : Nat → Nat → Int32 → XH → XR
  | 0 => fun _ _ _ => none
  | n + 1 => qM_thinks_2_b (qM_thinks_2 n)
def qM_thinks (a0 : Nat) (h : XH) : XR :=
  qM_thinks_2 LF a0 (0 : Int32) h
-- LineDiagramModel.puts(III)V
def qM_puts (a0 : Nat) (x1 : Int32) (x2 : Int32) (x3 : Int32) (h : XH) : XR :=
  gR h a0 9 8 (fun a_1 =>
  wrI h a_1 (((23 : Int32) * x1) + x2) x3 (fun h2 =>
    rV h2))
-- LineDiagramModel.putsPoint(IIII)V
def qM_putsPoint (a0 : Nat) (x1 : Int32) (x2 : Int32) (x3 : Int32) (x4 : Int32) (h : XH) : XR :=
  isO h a0 9 (bV (qM_puts a0 x1 ((3 : Int32) + ((2 : Int32) * x2)) x3 h) (fun h1 =>
  isO h1 a0 9 (bV (qM_puts a0 x1 (((3 : Int32) + ((2 : Int32) * x2)) + (1 : Int32)) x4 h1) (fun h2 =>
    rV h2))))
-- LineDiagramModel.wayOf(II)I
def qM_wayOf (a0 : Nat) (x1 : Int32) (x2 : Int32) (h : XH) : XR :=
  isO h a0 9 (bI (qM_px a0 x1 x2 h) (fun v2 h1 =>
  isO h1 a0 9 (bI (qM_py a0 x1 x2 h1) (fun v4 h3 =>
    isO h3 a0 9 (bI (qM_px a0 x1 (x2 + (1 : Int32)) h3) (fun v6 h5 =>
      isO h5 a0 9 (bI (qM_py a0 x1 (x2 + (1 : Int32)) h5) (fun v8 h7 =>
        bI (qM_wayTo v2 v4 v6 v8 h7) (fun v10 h9 =>
          rI v10 h9)))))))))
-- LineDiagramModel.turnAt(II)I
def qM_turnAt (a0 : Nat) (x1 : Int32) (x2 : Int32) (h : XH) : XR :=
  isO h a0 9 (bI (qM_wayOf a0 x1 (x2 - (1 : Int32)) h) (fun v2 h1 =>
  isO h1 a0 9 (bI (qM_wayOf a0 x1 x2 h1) (fun v4 h3 =>
    bI (qM_turnOf v2 v4 h3) (fun v6 h5 =>
      rI v6 h5)))))
-- LineDiagramModel.stepsOf(II)I
def qM_stepsOf (a0 : Nat) (x1 : Int32) (x2 : Int32) (h : XH) : XR :=
  isO h a0 9 (bI (qM_px a0 x1 (x2 + (1 : Int32)) h) (fun v2 h1 =>
  isO h1 a0 9 (bI (qM_px a0 x1 x2 h1) (fun v4 h3 =>
    bI (qM_size (v2 - v4) h3) (fun v6 h5 =>
      isO h5 a0 9 (bI (qM_py a0 x1 (x2 + (1 : Int32)) h5) (fun v8 h7 =>
        isO h7 a0 9 (bI (qM_py a0 x1 x2 h7) (fun v10 h9 =>
          bI (qM_size (v8 - v10) h9) (fun v12 h11 =>
            if v12 < v6 then
              (rI v6 h11)
              else
              rI v12 h11))))))))))
-- LineDiagramModel.lengthOf(I)I
def qM_lengthOf_4_b (k4 : Nat → Int32 → Int32 → Int32 → XH → XR) (a0 : Nat) (x1 : Int32) (x2 : Int32) (x3 : Int32) (h : XH) : XR :=
  isO h a0 9 (bI (qM_of a0 x1 (2 : Int32) h) (fun v2 h1 =>
  if (x3 + (1 : Int32)) < v2 then
    (isO h1 a0 9 (bI (qM_stepsOf a0 x1 x3 h1) (fun v4 h3 =>
      k4 a0 x1 (x2 + v4) (x3 + (1 : Int32)) h3)))
    else
    rI x2 h1))
def qM_lengthOf_4 : Nat → Nat → Int32 → Int32 → Int32 → XH → XR
  | 0 => fun _ _ _ _ _ => none
  | n + 1 => qM_lengthOf_4_b (qM_lengthOf_4 n)
def qM_lengthOf (a0 : Nat) (x1 : Int32) (h : XH) : XR :=
  qM_lengthOf_4 LF a0 x1 (0 : Int32) (0 : Int32) h
