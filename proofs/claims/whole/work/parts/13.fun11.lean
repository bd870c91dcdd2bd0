-- LineDiagram.insert(IIII)I
def qD_insert (a0 : Nat) (x1 : Int32) (x2 : Int32) (x3 : Int32) (x4 : Int32) (h : XH) : XR :=
  isO h a0 8 (bI (qD_isLine a0 x1 h) (fun v2 h1 =>
  if v2 = (0 : Int32) then
    (rI (-1 : Int32) h1)
    else
    isO h1 a0 8 (bI (qD_isCell a0 x3 x4 h1) (fun v4 h3 =>
      if v4 = (0 : Int32) then
        (rI (-1 : Int32) h3)
        else
        if x2 < (0 : Int32) then
          (rI (-1 : Int32) h3)
          else
          gR h3 a0 8 3 (fun a_5 =>
            gR h3 a_5 5 4 (fun a_6 =>
              rdR h3 a_6 x1 (fun a_7 =>
                gI h3 a_7 3 1 (fun v8 =>
                  if v8 < x2 then
                    (rI (-1 : Int32) h3)
                    else
                    gR h3 a0 8 3 (fun a_9 =>
                      gR h3 a_9 5 4 (fun a_10 =>
                        rdR h3 a_10 x1 (fun a_11 =>
                        gI h3 a_11 3 1 (fun v12 =>
                        if v12 < (10 : Int32) then
                        (gR h3 a0 8 10 (fun a_13 =>
                        gR h3 a0 8 3 (fun a_14 =>
                        gR h3 a_14 5 4 (fun a_15 =>
                        rdR h3 a_15 x1 (fun a_16 =>
                        isO h3 a_13 3 (bV (qLn_copyFrom a_13 a_16 h3) (fun h17 =>
                        gR h17 a0 8 10 (fun a_18 =>
                        isO h17 a_18 3 (bV (qLn_insertPoint a_18 x2 x3 x4 h17) (fun h19 =>
                        isO h19 a0 8 (bI (qD_change a0 x1 h19) (fun v21 h20 =>
                        rI v21 h20))))))))))))
                        else
                        rI (-2 : Int32) h3))))))))))))
-- LineDiagramModel.insert(IIII)I
def qM_insert_99 (a0 : Nat) (x1 : Int32) (x2 : Int32) (x3 : Int32) (x4 : Int32) (h : XH) : XR :=
  isO h a0 9 (bV (qM_putsPoint a0 x1 x2 x3 x4 h) (fun h1 =>
  isO h1 a0 9 (bI (qM_of a0 x1 (2 : Int32) h1) (fun v3 h2 =>
    isO h2 a0 9 (bV (qM_puts a0 x1 (2 : Int32) (v3 + (1 : Int32)) h2) (fun h4 =>
      isO h4 a0 9 (bI (qM_settles a0 x1 h4) (fun v6 h5 =>
        rI v6 h5))))))))
def qM_insert_62_b (k62 : Nat → Int32 → Int32 → Int32 → Int32 → Int32 → XH → XR) (a0 : Nat) (x1 : Int32) (x2 : Int32) (x3 : Int32) (x4 : Int32) (x5 : Int32) (h : XH) : XR :=
  if x2 < x5 then
  (isO h a0 9 (bI (qM_px a0 x1 (x5 - (1 : Int32)) h) (fun v2 h1 =>
    isO h1 a0 9 (bI (qM_py a0 x1 (x5 - (1 : Int32)) h1) (fun v4 h3 =>
      isO h3 a0 9 (bV (qM_putsPoint a0 x1 x5 v2 v4 h3) (fun h5 =>
        k62 a0 x1 x2 x3 x4 (x5 + (-1 : Int32)) h5)))))))
  else
  qM_insert_99 a0 x1 x2 x3 x4 h
def qM_insert_62 : Nat → Nat → Int32 → Int32 → Int32 → Int32 → Int32 → XH → XR
  | 0 => fun _ _ _ _ _ _ _ => none
  | n + 1 => qM_insert_62_b (qM_insert_62 n)
def qM_insert (a0 : Nat) (x1 : Int32) (x2 : Int32) (x3 : Int32) (x4 : Int32) (h : XH) : XR :=
  isO h a0 9 (bI (qM_isLine a0 x1 h) (fun v2 h1 =>
  if v2 = (0 : Int32) then
    (rI (-1 : Int32) h1)
    else
    isO h1 a0 9 (bI (qM_of a0 x1 (2 : Int32) h1) (fun v4 h3 =>
      bI (qM_in (x2.toInt64) (0 : Int64) (v4.toInt64) h3) (fun v6 h5 =>
        if v6 = (0 : Int32) then
          (rI (-1 : Int32) h5)
          else
          isO h5 a0 9 (bI (qM_isCell a0 x3 x4 h5) (fun v8 h7 =>
            if v8 = (0 : Int32) then
              (rI (-1 : Int32) h7)
              else
              isO h7 a0 9 (bI (qM_of a0 x1 (2 : Int32) h7) (fun v10 h9 =>
                if v10 = (10 : Int32) then
                  (rI (-2 : Int32) h9)
                  else
                  isO h9 a0 9 (bV (qM_thinks a0 h9) (fun h11 =>
                    isO h11 a0 9 (bI (qM_of a0 x1 (2 : Int32) h11) (fun v13 h12 =>
                      qM_insert_62 LF a0 x1 x2 x3 x4 v13 h12)))))))))))))
-- LineDiagram$Line.dropPoint(I)V
def qLn_dropPoint_25_b (k25 : Nat → Int32 → XH → XR) (a0 : Nat) (x2 : Int32) (h : XH) : XR :=
  gI h a0 3 1 (fun v1 =>
  if x2 < v1 then
    (gR h a0 3 4 (fun a_2 =>
      gR h a0 3 4 (fun a_3 =>
        rdI h a_3 (x2 + (1 : Int32)) (fun v4 =>
          wrI h a_2 x2 v4 (fun h5 =>
            gR h5 a0 3 5 (fun a_6 =>
              gR h5 a0 3 5 (fun a_7 =>
                rdI h5 a_7 (x2 + (1 : Int32)) (fun v8 =>
                  wrI h5 a_6 x2 v8 (fun h9 =>
                    k25 a0 (x2 + (1 : Int32)) h9)))))))))
    else
    rV h)
def qLn_dropPoint_25 : Nat → Nat → Int32 → XH → XR
  | 0 => fun _ _ _ => none
  | n + 1 => qLn_dropPoint_25_b (qLn_dropPoint_25 n)
def qLn_dropPoint (a0 : Nat) (x1 : Int32) (h : XH) : XR :=
  if x1 < (0 : Int32) then
  (rV h)
  else
  gI h a0 3 1 (fun v1 =>
    if x1 < v1 then
      (gI h a0 3 1 (fun v2 =>
        pV h a0 3 1 (.int (v2 - (1 : Int32))) (fun h3 =>
          qLn_dropPoint_25 LF a0 x1 h3)))
      else
      rV h)
-- LineDiagram.removePoint(II)I
def qD_removePoint (a0 : Nat) (x1 : Int32) (x2 : Int32) (h : XH) : XR :=
  isO h a0 8 (bI (qD_isPoint a0 x1 x2 h) (fun v2 h1 =>
  if v2 = (0 : Int32) then
    (rI (-1 : Int32) h1)
    else
    gR h1 a0 8 3 (fun a_3 =>
      gR h1 a_3 5 4 (fun a_4 =>
        rdR h1 a_4 x1 (fun a_5 =>
          gI h1 a_5 3 1 (fun v6 =>
            if (2 : Int32) < v6 then
              (gR h1 a0 8 10 (fun a_7 =>
                gR h1 a0 8 3 (fun a_8 =>
                  gR h1 a_8 5 4 (fun a_9 =>
                    rdR h1 a_9 x1 (fun a_10 =>
                      isO h1 a_7 3 (bV (qLn_copyFrom a_7 a_10 h1) (fun h11 =>
                        gR h11 a0 8 10 (fun a_12 =>
                        isO h11 a_12 3 (bV (qLn_dropPoint a_12 x2 h11) (fun h13 =>
                        isO h13 a0 8 (bI (qD_change a0 x1 h13) (fun v15 h14 =>
                        rI v15 h14))))))))))))
              else
              rI (-2 : Int32) h1))))))
-- LineDiagramModel.removePoint(II)I
def qM_removePoint_82 (a0 : Nat) (x1 : Int32) (h : XH) : XR :=
  isO h a0 9 (bI (qM_settles a0 x1 h) (fun v2 h1 =>
  rI v2 h1))
def qM_removePoint_44_b (k44 : Nat → Int32 → Int32 → XH → XR) (a0 : Nat) (x1 : Int32) (x3 : Int32) (h : XH) : XR :=
  isO h a0 9 (bI (qM_of a0 x1 (2 : Int32) h) (fun v2 h1 =>
  if x3 < v2 then
    (isO h1 a0 9 (bI (qM_px a0 x1 (x3 + (1 : Int32)) h1) (fun v4 h3 =>
      isO h3 a0 9 (bI (qM_py a0 x1 (x3 + (1 : Int32)) h3) (fun v6 h5 =>
        isO h5 a0 9 (bV (qM_putsPoint a0 x1 x3 v4 v6 h5) (fun h7 =>
          k44 a0 x1 (x3 + (1 : Int32)) h7)))))))
    else
    qM_removePoint_82 a0 x1 h1))
def qM_removePoint_44 : Nat → Nat → Int32 → Int32 → XH → XR
  | 0 => fun _ _ _ _ => none
  | n + 1 => qM_removePoint_44_b (qM_removePoint_44 n)
def qM_removePoint (a0 : Nat) (x1 : Int32) (x2 : Int32) (h : XH) : XR :=
  isO h a0 9 (bI (qM_isPoint a0 x1 x2 h) (fun v2 h1 =>
  if v2 = (0 : Int32) then
    (rI (-1 : Int32) h1)
    else
    isO h1 a0 9 (bI (qM_of a0 x1 (2 : Int32) h1) (fun v4 h3 =>
      if v4 = (2 : Int32) then
        (rI (-2 : Int32) h3)
        else
        isO h3 a0 9 (bV (qM_thinks a0 h3) (fun h5 =>
          isO h5 a0 9 (bI (qM_of a0 x1 (2 : Int32) h5) (fun v7 h6 =>
            isO h6 a0 9 (bV (qM_puts a0 x1 (2 : Int32) (v7 - (1 : Int32)) h6) (fun h8 =>
              qM_removePoint_44 LF a0 x1 x2 h8))))))))))
-- LineDiagram$Line.turnRound()V
def qLn_turnRound_9_b (k9 : Nat → Int32 → Int32 → XH → XR) (a0 : Nat) (x1 : Int32) (x2 : Int32) (h : XH) : XR :=
  if x2 < x1 then
  (gR h a0 3 4 (fun a_1 =>
    rdI h a_1 x2 (fun v2 =>
      gR h a0 3 5 (fun a_3 =>
        rdI h a_3 x2 (fun v4 =>
          gR h a0 3 4 (fun a_5 =>
            gR h a0 3 4 (fun a_6 =>
              rdI h a_6 x1 (fun v7 =>
                wrI h a_5 x2 v7 (fun h8 =>
                  gR h8 a0 3 5 (fun a_9 =>
                    gR h8 a0 3 5 (fun a_10 =>
                      rdI h8 a_10 x1 (fun v11 =>
                        wrI h8 a_9 x2 v11 (fun h12 =>
                        gR h12 a0 3 4 (fun a_13 =>
                        wrI h12 a_13 x1 v2 (fun h14 =>
                        gR h14 a0 3 5 (fun a_15 =>
                        wrI h14 a_15 x1 v4 (fun h16 =>
                        k9 a0 (x1 + (-1 : Int32)) (x2 + (1 : Int32)) h16)))))))))))))))))
  else
  rV h
def qLn_turnRound_9 : Nat → Nat → Int32 → Int32 → XH → XR
  | 0 => fun _ _ _ _ => none
  | n + 1 => qLn_turnRound_9_b (qLn_turnRound_9 n)
def qLn_turnRound (a0 : Nat) (h : XH) : XR :=
  gI h a0 3 1 (fun v1 =>
  qLn_turnRound_9 LF a0 (v1 - (1 : Int32)) (0 : Int32) h)
-- LineDiagram.reverse(I)I
def qD_reverse (a0 : Nat) (x1 : Int32) (h : XH) : XR :=
  isO h a0 8 (bI (qD_isLine a0 x1 h) (fun v2 h1 =>
  if v2 = (0 : Int32) then
    (rI (-1 : Int32) h1)
    else
    gR h1 a0 8 10 (fun a_3 =>
      gR h1 a0 8 3 (fun a_4 =>
        gR h1 a_4 5 4 (fun a_5 =>
          rdR h1 a_5 x1 (fun a_6 =>
            isO h1 a_3 3 (bV (qLn_copyFrom a_3 a_6 h1) (fun h7 =>
              gR h7 a0 8 10 (fun a_8 =>
                isO h7 a_8 3 (bV (qLn_turnRound a_8 h7) (fun h9 =>
                  isO h9 a0 8 (bI (qD_change a0 x1 h9) (fun v11 h10 =>
                    rI v11 h10)))))))))))))
-- LineDiagramModel.reverse(I)I
def qM_reverse_88 (a0 : Nat) (x1 : Int32) (h : XH) : XR :=
  isO h a0 9 (bI (qM_settles a0 x1 h) (fun v2 h1 =>
  rI v2 h1))
def qM_reverse_25_b (k25 : Nat → Int32 → Int32 → Int32 → XH → XR) (a0 : Nat) (x1 : Int32) (x2 : Int32) (x3 : Int32) (h : XH) : XR :=
  if x3 < (x2 - x3) then
  (isO h a0 9 (bI (qM_px a0 x1 x3 h) (fun v2 h1 =>
    isO h1 a0 9 (bI (qM_py a0 x1 x3 h1) (fun v4 h3 =>
      isO h3 a0 9 (bI (qM_px a0 x1 (x2 - x3) h3) (fun v6 h5 =>
        isO h5 a0 9 (bI (qM_py a0 x1 (x2 - x3) h5) (fun v8 h7 =>
          isO h7 a0 9 (bV (qM_putsPoint a0 x1 x3 v6 v8 h7) (fun h9 =>
            isO h9 a0 9 (bV (qM_putsPoint a0 x1 (x2 - x3) v2 v4 h9) (fun h10 =>
              k25 a0 x1 x2 (x3 + (1 : Int32)) h10)))))))))))))
  else
  qM_reverse_88 a0 x1 h
def qM_reverse_25 : Nat → Nat → Int32 → Int32 → Int32 → XH → XR
  | 0 => fun _ _ _ _ _ => none
  | n + 1 => qM_reverse_25_b (qM_reverse_25 n)
def qM_reverse (a0 : Nat) (x1 : Int32) (h : XH) : XR :=
  isO h a0 9 (bI (qM_isLine a0 x1 h) (fun v2 h1 =>
  if v2 = (0 : Int32) then
    (rI (-1 : Int32) h1)
    else
    isO h1 a0 9 (bV (qM_thinks a0 h1) (fun h3 =>
      isO h3 a0 9 (bI (qM_of a0 x1 (2 : Int32) h3) (fun v5 h4 =>
        qM_reverse_25 LF a0 x1 (v5 - (1 : Int32)) (0 : Int32) h4))))))
-- LineDiagram.setStops(II)I
def qD_setStops (a0 : Nat) (x1 : Int32) (x2 : Int32) (h : XH) : XR :=
  isO h a0 8 (bI (qD_isLine a0 x1 h) (fun v2 h1 =>
  if v2 = (0 : Int32) then
    (rI (-1 : Int32) h1)
    else
    if x2 < (2 : Int32) then
      (rI (-1 : Int32) h1)
      else
      if (20 : Int32) < x2 then
        (rI (-1 : Int32) h1)
        else
        gR h1 a0 8 3 (fun a_3 =>
          gR h1 a_3 5 4 (fun a_4 =>
            rdR h1 a_4 x1 (fun a_5 =>
              gI h1 a_5 3 2 (fun v6 =>
                if v6 = x2 then
                  (rI (-2 : Int32) h1)
                  else
                  gR h1 a0 8 10 (fun a_7 =>
                    gR h1 a0 8 3 (fun a_8 =>
                      gR h1 a_8 5 4 (fun a_9 =>
                        rdR h1 a_9 x1 (fun a_10 =>
                        isO h1 a_7 3 (bV (qLn_copyFrom a_7 a_10 h1) (fun h11 =>
                        gR h11 a0 8 10 (fun a_12 =>
                        pV h11 a_12 3 2 (.int x2) (fun h13 =>
                        isO h13 a0 8 (bI (qD_change a0 x1 h13) (fun v15 h14 =>
                        rI v15 h14))))))))))))))))
-- LineDiagramModel.becomes(III)I
def qM_becomes (a0 : Nat) (x1 : Int32) (x2 : Int32) (x3 : Int32) (h : XH) : XR :=
  isO h a0 9 (bI (qM_of a0 x1 x2 h) (fun v2 h1 =>
  if v2 = x3 then
    (rI (-2 : Int32) h1)
    else
    isO h1 a0 9 (bV (qM_thinks a0 h1) (fun h3 =>
      isO h3 a0 9 (bV (qM_puts a0 x1 x2 x3 h3) (fun h4 =>
        isO h4 a0 9 (bI (qM_settles a0 x1 h4) (fun v6 h5 =>
          rI v6 h5))))))))
-- LineDiagramModel.setStops(II)I
def qM_setStops (a0 : Nat) (x1 : Int32) (x2 : Int32) (h : XH) : XR :=
  isO h a0 9 (bI (qM_isLine a0 x1 h) (fun v2 h1 =>
  if v2 = (0 : Int32) then
    (rI (-1 : Int32) h1)
    else
    bI (qM_in (x2.toInt64) (2 : Int64) (20 : Int64) h1) (fun v4 h3 =>
      if v4 = (0 : Int32) then
        (rI (-1 : Int32) h3)
        else
        isO h3 a0 9 (bI (qM_becomes a0 x1 (1 : Int32) x2 h3) (fun v6 h5 =>
          rI v6 h5)))))
-- LineDiagram.setSize(II)I
def qD_setSize (a0 : Nat) (x1 : Int32) (x2 : Int32) (h : XH) : XR :=
  isO h a0 8 (bI (qD_isLine a0 x1 h) (fun v2 h1 =>
  if v2 = (0 : Int32) then
    (rI (-1 : Int32) h1)
    else
    if x2 < (1 : Int32) then
      (rI (-1 : Int32) h1)
      else
      if (10 : Int32) < x2 then
        (rI (-1 : Int32) h1)
        else
        gR h1 a0 8 3 (fun a_3 =>
          gR h1 a_3 5 4 (fun a_4 =>
            rdR h1 a_4 x1 (fun a_5 =>
              gI h1 a_5 3 3 (fun v6 =>
                if v6 = x2 then
                  (rI (-2 : Int32) h1)
                  else
                  gR h1 a0 8 10 (fun a_7 =>
                    gR h1 a0 8 3 (fun a_8 =>
                      gR h1 a_8 5 4 (fun a_9 =>
                        rdR h1 a_9 x1 (fun a_10 =>
                        isO h1 a_7 3 (bV (qLn_copyFrom a_7 a_10 h1) (fun h11 =>
                        gR h11 a0 8 10 (fun a_12 =>
                        pV h11 a_12 3 3 (.int x2) (fun h13 =>
                        isO h13 a0 8 (bI (qD_change a0 x1 h13) (fun v15 h14 =>
                        rI v15 h14))))))))))))))))
