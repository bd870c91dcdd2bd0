-- LineDiagram$Text.addByte(I)V
def qT_addByte (a0 : Nat) (x1 : Int32) (h : XH) : XR :=
  gI h a0 6 0 (fun v1 =>
  if v1 < (0 : Int32) then
    (rV h)
    else
    gI h a0 6 0 (fun v2 =>
      if v2 < (1000 : Int32) then
        (gR h a0 6 1 (fun a_3 =>
          gI h a0 6 0 (fun v4 =>
            wrB h a_3 v4 (x1.toInt8.toInt32) (fun h5 =>
              gI h5 a0 6 0 (fun v6 =>
                pV h5 a0 6 0 (.int (v6 + (1 : Int32))) (fun h7 =>
                  rV h7))))))
        else
        rV h))
-- LineDiagram$Text.addInt(I)V
def qT_addInt (a0 : Nat) (x1 : Int32) (h : XH) : XR :=
  isO h a0 6 (bV (qT_addByte a0 (jshr x1 (24 : Int32)) h) (fun h1 =>
  isO h1 a0 6 (bV (qT_addByte a0 (jshr x1 (16 : Int32)) h1) (fun h2 =>
    isO h2 a0 6 (bV (qT_addByte a0 (jshr x1 (8 : Int32)) h2) (fun h3 =>
      isO h3 a0 6 (bV (qT_addByte a0 x1 h3) (fun h4 =>
        rV h4))))))))
-- LineDiagram.append(IIIII)I
def qD_append (a0 : Nat) (x1 : Int32) (x2 : Int32) (x3 : Int32) (x4 : Int32) (x5 : Int32) (h : XH) : XR :=
  gR h a0 8 0 (fun a_1 =>
  gI h a_1 6 0 (fun v2 =>
    if (1000 : Int32) < (v2 + (20 : Int32)) then
      (rI (-1 : Int32) h)
      else
      gR h a0 8 0 (fun a_3 =>
        isO h a_3 6 (bV (qT_addInt a_3 x1 h) (fun h4 =>
          gR h4 a0 8 0 (fun a_5 =>
            isO h4 a_5 6 (bV (qT_addInt a_5 x2 h4) (fun h6 =>
              gR h6 a0 8 0 (fun a_7 =>
                isO h6 a_7 6 (bV (qT_addInt a_7 x3 h6) (fun h8 =>
                  gR h8 a0 8 0 (fun a_9 =>
                    isO h8 a_9 6 (bV (qT_addInt a_9 x4 h8) (fun h10 =>
                      gR h10 a0 8 0 (fun a_11 =>
                        isO h10 a_11 6 (bV (qT_addInt a_11 x5 h10) (fun h12 =>
                        gR h12 a0 8 0 (fun a_13 =>
                        gI h12 a_13 6 0 (fun v14 =>
                        rI v14 h12)))))))))))))))))))
-- LineDiagramModel.feeds(I)V
def qM_feeds_3_b (k3 : Nat → Int32 → Int32 → XH → XR) (a0 : Nat) (x1 : Int32) (x2 : Int32) (h : XH) : XR :=
  if x2 < (0 : Int32) then
  (rV h)
  else
  gR h a0 9 0 (fun a_1 =>
    gI h a0 9 1 (fun v2 =>
      wrB h a_1 v2 ((jshr x1 x2).toInt8.toInt32) (fun h3 =>
        gI h3 a0 9 1 (fun v4 =>
          pV h3 a0 9 1 (.int (v4 + (1 : Int32))) (fun h5 =>
            k3 a0 x1 (x2 + (-8 : Int32)) h5)))))
def qM_feeds_3 : Nat → Nat → Int32 → Int32 → XH → XR
  | 0 => fun _ _ _ _ => none
  | n + 1 => qM_feeds_3_b (qM_feeds_3 n)
def qM_feeds (a0 : Nat) (x1 : Int32) (h : XH) : XR :=
  qM_feeds_3 LF a0 x1 (24 : Int32) h
-- LineDiagramModel.append(IIIII)I
def qM_append (a0 : Nat) (x1 : Int32) (x2 : Int32) (x3 : Int32) (x4 : Int32) (x5 : Int32) (h : XH) : XR :=
  gI h a0 9 1 (fun v1 =>
  if (1000 : Int32) < (v1 + (20 : Int32)) then
    (rI (-1 : Int32) h)
    else
    isO h a0 9 (bV (qM_feeds a0 x1 h) (fun h2 =>
      isO h2 a0 9 (bV (qM_feeds a0 x2 h2) (fun h3 =>
        isO h3 a0 9 (bV (qM_feeds a0 x3 h3) (fun h4 =>
          isO h4 a0 9 (bV (qM_feeds a0 x4 h4) (fun h5 =>
            isO h5 a0 9 (bV (qM_feeds a0 x5 h5) (fun h6 =>
              gI h6 a0 9 1 (fun v7 =>
                rI v7 h6))))))))))))
-- LineDiagram.truncate(I)I
def qD_truncate (a0 : Nat) (x1 : Int32) (h : XH) : XR :=
  if x1 < (0 : Int32) then
  (rI (-1 : Int32) h)
  else
  gR h a0 8 0 (fun a_1 =>
    gI h a_1 6 0 (fun v2 =>
      if v2 < x1 then
        (rI (-1 : Int32) h)
        else
        gR h a0 8 0 (fun a_3 =>
          gI h a_3 6 0 (fun v4 =>
            pV h a_3 6 0 (.int (v4 - x1)) (fun h5 =>
              gR h5 a0 8 0 (fun a_6 =>
                gI h5 a_6 6 0 (fun v7 =>
                  rI v7 h5)))))))
-- LineDiagramModel.in(JJJ)Z
def qM_in (l0 : Int64) (l2 : Int64) (l4 : Int64) (h : XH) : XR :=
  if (lg_cmp l0 l2) < (0 : Int32) then
  (rI (0 : Int32) h)
  else
  if (0 : Int32) < (lg_cmp l0 l4) then
    (rI (0 : Int32) h)
    else
    rI (1 : Int32) h
-- LineDiagramModel.truncate(I)I
def qM_truncate (a0 : Nat) (x1 : Int32) (h : XH) : XR :=
  gI h a0 9 1 (fun v1 =>
  bI (qM_in (x1.toInt64) (0 : Int64) (v1.toInt64) h) (fun v3 h2 =>
    if v3 = (0 : Int32) then
      (rI (-1 : Int32) h2)
      else
      gI h2 a0 9 1 (fun v4 =>
        pV h2 a0 9 1 (.int (v4 - x1)) (fun h5 =>
          gI h5 a0 9 1 (fun v6 =>
            rI v6 h5)))))
-- LineDiagram$Text.byteAt(I)I
def qT_byteAt (a0 : Nat) (x1 : Int32) (h : XH) : XR :=
  if x1 < (0 : Int32) then
  (rI (-1 : Int32) h)
  else
  gI h a0 6 0 (fun v1 =>
    if x1 < v1 then
      (gR h a0 6 1 (fun a_2 =>
        rdB h a_2 x1 (fun v3 =>
          rI (v3 &&& (255 : Int32)) h)))
      else
      rI (-1 : Int32) h)
-- LineDiagram$Parser.isBlank(I)Z
def qPs_isBlank (x0 : Int32) (h : XH) : XR :=
  if x0 = (32 : Int32) then
  (rI (1 : Int32) h)
  else
  if x0 = (10 : Int32) then
    (rI (1 : Int32) h)
    else
    rI (0 : Int32) h
-- LineDiagram$Parser.isLetter(I)Z
def qPs_isLetter (x0 : Int32) (h : XH) : XR :=
  if x0 < (97 : Int32) then
  (rI (0 : Int32) h)
  else
  if (122 : Int32) < x0 then
    (rI (0 : Int32) h)
    else
    rI (1 : Int32) h
-- LineDiagram.shiftOf(I)I
def qD_shiftOf (x0 : Int32) (h : XH) : XR :=
  rI ((25 : Int32) - ((5 : Int32) * x0)) h
