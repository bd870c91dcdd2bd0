-- LineDiagram$Parser.kindOfWord(I)I
def qPs_kindOfWord (x0 : Int32) (h : XH) : XR :=
  if x0 = (54525952 : Int32) then (rI (10 : Int32) h) else
  if x0 = (82888832 : Int32) then (rI (5 : Int32) h) else
  if x0 = (412554240 : Int32) then (rI (7 : Int32) h) else
  if x0 = (647828480 : Int32) then (rI (8 : Int32) h) else
  if x0 = (659014240 : Int32) then (rI (9 : Int32) h) else
  if x0 = (693712896 : Int32) then (rI (6 : Int32) h) else
  rI (4 : Int32) h
-- LineDiagram$Parser.scanWord(LLineDiagram$Text;)V
def qPs_scanWord_65 (k7 : Nat → Nat → Int32 → XH → XR) (a0 : Nat) (a1 : Nat) (x2 : Int32) (h : XH) : XR :=
  gI h a0 4 0 (fun v1 =>
  pV h a0 4 0 (.int (v1 + (1 : Int32))) (fun h2 =>
    k7 a0 a1 (x2 + (1 : Int32)) h2))
def qPs_scanWord_99 (s0 : Int32) (s1 : Nat) (h : XH) : XR :=
  pV h s1 4 2 (.int s0) (fun h1 =>
  rV h1)
def qPs_scanWord_81 (a0 : Nat) (x2 : Int32) (h : XH) : XR :=
  if (6 : Int32) < x2 then
  (qPs_scanWord_99 (1 : Int32) a0 h)
  else
  gI h a0 4 3 (fun v1 =>
    bI (qPs_kindOfWord v1 h) (fun v3 h2 =>
      qPs_scanWord_99 v3 a0 h2))
def qPs_scanWord_7_b (k7 : Nat → Nat → Int32 → XH → XR) (a0 : Nat) (a1 : Nat) (x2 : Int32) (h : XH) : XR :=
  gI h a0 4 0 (fun v1 =>
  gI h a1 6 0 (fun v2 =>
    if v1 < v2 then
      (gI h a0 4 0 (fun v3 =>
        isO h a1 6 (bI (qT_byteAt a1 v3 h) (fun v5 h4 =>
          bI (qPs_isLetter v5 h4) (fun v7 h6 =>
            if v7 = (0 : Int32) then
              (qPs_scanWord_81 a0 x2 h6)
              else
              if x2 < (6 : Int32) then
                (gI h6 a0 4 3 (fun v8 =>
                  gI h6 a0 4 0 (fun v9 =>
                    isO h6 a1 6 (bI (qT_byteAt a1 v9 h6) (fun v11 h10 =>
                      bI (qD_shiftOf x2 h10) (fun v13 h12 =>
                        pV h12 a0 4 3 (.int (v8 ||| (jshl ((v11 - (97 : Int32)) + (1 : Int32)) v13))) (fun h14 =>
                        qPs_scanWord_65 k7 a0 a1 x2 h14)))))))
                else
                qPs_scanWord_65 k7 a0 a1 x2 h6)))))
      else
      qPs_scanWord_81 a0 x2 h))
def qPs_scanWord_7 : Nat → Nat → Nat → Int32 → XH → XR
  | 0 => fun _ _ _ _ => none
  | n + 1 => qPs_scanWord_7_b (qPs_scanWord_7 n)
def qPs_scanWord (a0 : Nat) (a1 : Nat) (h : XH) : XR :=
  pV h a0 4 3 (.int (0 : Int32)) (fun h1 =>
  qPs_scanWord_7 LF a0 a1 (0 : Int32) h1)
-- LineDiagram$Parser.isDigit(I)Z
def qPs_isDigit (x0 : Int32) (h : XH) : XR :=
  if x0 < (48 : Int32) then
  (rI (0 : Int32) h)
  else
  if (57 : Int32) < x0 then
    (rI (0 : Int32) h)
    else
    rI (1 : Int32) h
-- LineDiagram$Parser.scanNumber(LLineDiagram$Text;)V
def qPs_scanNumber_60 (k7 : Nat → Nat → Int32 → XH → XR) (a0 : Nat) (a1 : Nat) (x2 : Int32) (h : XH) : XR :=
  gI h a0 4 0 (fun v1 =>
  pV h a0 4 0 (.int (v1 + (1 : Int32))) (fun h2 =>
    k7 a0 a1 (x2 + (1 : Int32)) h2))
def qPs_scanNumber_87 (s0 : Int32) (s1 : Nat) (h : XH) : XR :=
  pV h s1 4 2 (.int s0) (fun h1 =>
  rV h1)
def qPs_scanNumber_76 (a0 : Nat) (x2 : Int32) (h : XH) : XR :=
  if (2 : Int32) < x2 then
  (qPs_scanNumber_87 (1 : Int32) a0 h)
  else
  qPs_scanNumber_87 (2 : Int32) a0 h
def qPs_scanNumber_7_b (k7 : Nat → Nat → Int32 → XH → XR) (a0 : Nat) (a1 : Nat) (x2 : Int32) (h : XH) : XR :=
  gI h a0 4 0 (fun v1 =>
  gI h a1 6 0 (fun v2 =>
    if v1 < v2 then
      (gI h a0 4 0 (fun v3 =>
        isO h a1 6 (bI (qT_byteAt a1 v3 h) (fun v5 h4 =>
          bI (qPs_isDigit v5 h4) (fun v7 h6 =>
            if v7 = (0 : Int32) then
              (qPs_scanNumber_76 a0 x2 h6)
              else
              if x2 < (2 : Int32) then
                (gI h6 a0 4 3 (fun v8 =>
                  gI h6 a0 4 0 (fun v9 =>
                    isO h6 a1 6 (bI (qT_byteAt a1 v9 h6) (fun v11 h10 =>
                      pV h10 a0 4 3 (.int ((((10 : Int32) * v8) + v11) - (48 : Int32))) (fun h12 =>
                        qPs_scanNumber_60 k7 a0 a1 x2 h12))))))
                else
                qPs_scanNumber_60 k7 a0 a1 x2 h6)))))
      else
      qPs_scanNumber_76 a0 x2 h))
def qPs_scanNumber_7 : Nat → Nat → Nat → Int32 → XH → XR
  | 0 => fun _ _ _ _ => none
  | n + 1 => qPs_scanNumber_7_b (qPs_scanNumber_7 n)
def qPs_scanNumber (a0 : Nat) (a1 : Nat) (h : XH) : XR :=
  pV h a0 4 3 (.int (0 : Int32)) (fun h1 =>
  qPs_scanNumber_7 LF a0 a1 (0 : Int32) h1)
-- LineDiagram$Parser.scan(LLineDiagram$Text;)V
def qPs_scan_109 (a0 : Nat) (s0 : Int32) (s1 : Nat) (h : XH) : XR :=
  pV h s1 4 2 (.int s0) (fun h1 =>
  gI h1 a0 4 0 (fun v2 =>
    pV h1 a0 4 0 (.int (v2 + (1 : Int32))) (fun h3 =>
      rV h3)))
def qPs_scan_38 (a0 : Nat) (a1 : Nat) (h : XH) : XR :=
  gI h a0 4 0 (fun v1 =>
  pV h a0 4 1 (.int v1) (fun h2 =>
    gI h2 a0 4 0 (fun v3 =>
      isO h2 a1 6 (bI (qT_byteAt a1 v3 h2) (fun v5 h4 =>
        if v5 < (0 : Int32) then
          (pV h4 a0 4 2 (.int (0 : Int32)) (fun h12 =>
            rV h12))
          else
          bI (qPs_isLetter v5 h4) (fun v7 h6 =>
            if v7 = (0 : Int32) then
              (bI (qPs_isDigit v5 h6) (fun v9 h8 =>
                if v9 = (0 : Int32) then
                  (if v5 = (59 : Int32) then
                    (qPs_scan_109 a0 (3 : Int32) a0 h8)
                    else
                    qPs_scan_109 a0 (1 : Int32) a0 h8)
                  else
                  isO h8 a0 4 (bV (qPs_scanNumber a0 a1 h8) (fun h10 =>
                    rV h10))))
              else
              isO h6 a0 4 (bV (qPs_scanWord a0 a1 h6) (fun h11 =>
                rV h11))))))))
def qPs_scan_0_b (k0 : Nat → Nat → XH → XR) (a0 : Nat) (a1 : Nat) (h : XH) : XR :=
  gI h a0 4 0 (fun v1 =>
  gI h a1 6 0 (fun v2 =>
    if v1 < v2 then
      (gI h a0 4 0 (fun v3 =>
        isO h a1 6 (bI (qT_byteAt a1 v3 h) (fun v5 h4 =>
          bI (qPs_isBlank v5 h4) (fun v7 h6 =>
            if v7 = (0 : Int32) then
              (qPs_scan_38 a0 a1 h6)
              else
              gI h6 a0 4 0 (fun v8 =>
                pV h6 a0 4 0 (.int (v8 + (1 : Int32))) (fun h9 =>
                  k0 a0 a1 h9)))))))
      else
      qPs_scan_38 a0 a1 h))
def qPs_scan_0 : Nat → Nat → Nat → XH → XR
  | 0 => fun _ _ _ => none
  | n + 1 => qPs_scan_0_b (qPs_scan_0 n)
def qPs_scan (a0 : Nat) (a1 : Nat) (h : XH) : XR := qPs_scan_0 LF a0 a1 h
-- LineDiagram$Parser.pass(LLineDiagram$Text;I)Z
def qPs_pass (a0 : Nat) (a1 : Nat) (x2 : Int32) (h : XH) : XR :=
  gI h a0 4 2 (fun v1 =>
  if v1 = x2 then
    (isO h a0 4 (bV (qPs_scan a0 a1 h) (fun h2 =>
      rI (1 : Int32) h2)))
    else
    rI (0 : Int32) h)
-- LineDiagram$Parser.isNumber(II)Z
def qPs_isNumber (a0 : Nat) (x1 : Int32) (x2 : Int32) (h : XH) : XR :=
  gI h a0 4 2 (fun v1 =>
  if v1 = (2 : Int32) then
    (gI h a0 4 3 (fun v2 =>
      if v2 < x1 then
        (rI (0 : Int32) h)
        else
        gI h a0 4 3 (fun v3 =>
          if x2 < v3 then
            (rI (0 : Int32) h)
            else
            rI (1 : Int32) h)))
    else
    rI (0 : Int32) h)
-- LineDiagram$Parser.readNumber(LLineDiagram$Text;II)Z
def qPs_readNumber (a0 : Nat) (a1 : Nat) (x2 : Int32) (x3 : Int32) (h : XH) : XR :=
  isO h a0 4 (bI (qPs_isNumber a0 x2 x3 h) (fun v2 h1 =>
  if v2 = (0 : Int32) then
    (rI (0 : Int32) h1)
    else
    gI h1 a0 4 3 (fun v3 =>
      pV h1 a0 4 4 (.int v3) (fun h4 =>
        isO h4 a0 4 (bV (qPs_scan a0 a1 h4) (fun h5 =>
          rI (1 : Int32) h5))))))
-- LineDiagram$Plan.begin(III)V
def qP_begin (a0 : Nat) (x1 : Int32) (x2 : Int32) (x3 : Int32) (h : XH) : XR :=
  pV h a0 5 0 (.int x1) (fun h1 =>
  pV h1 a0 5 1 (.int x2) (fun h2 =>
    pV h2 a0 5 2 (.int x3) (fun h3 =>
      pV h3 a0 5 3 (.int (0 : Int32)) (fun h4 =>
        gR h4 a0 5 5 (fun a_5 =>
          pV h4 a_5 2 0 (.int (0 : Int32)) (fun h6 =>
            rV h6))))))
-- LineDiagram$Parser.readBoard(LLineDiagram$Text;LLineDiagram$Plan;)Z
def qPs_readBoard (a0 : Nat) (a1 : Nat) (a2 : Nat) (h : XH) : XR :=
  isO h a0 4 (bI (qPs_pass a0 a1 (5 : Int32) h) (fun v2 h1 =>
  if v2 = (0 : Int32) then
    (rI (0 : Int32) h1)
    else
    isO h1 a0 4 (bI (qPs_readNumber a0 a1 (4 : Int32) (40 : Int32) h1) (fun v4 h3 =>
      if v4 = (0 : Int32) then
        (rI (0 : Int32) h3)
        else
        gI h3 a0 4 4 (fun v5 =>
          isO h3 a0 4 (bI (qPs_readNumber a0 a1 (4 : Int32) (40 : Int32) h3) (fun v7 h6 =>
            if v7 = (0 : Int32) then
              (rI (0 : Int32) h6)
              else
              gI h6 a0 4 4 (fun v8 =>
                isO h6 a0 4 (bI (qPs_pass a0 a1 (6 : Int32) h6) (fun v10 h9 =>
                  if v10 = (0 : Int32) then
                    (rI (0 : Int32) h9)
                    else
                    isO h9 a0 4 (bI (qPs_readNumber a0 a1 (0 : Int32) (3 : Int32) h9) (fun v12 h11 =>
                      if v12 = (0 : Int32) then
                        (rI (0 : Int32) h11)
                        else
                        gI h11 a0 4 4 (fun v13 =>
                        isO h11 a2 5 (bV (qP_begin a2 v5 v8 v13 h11) (fun h14 =>
                        isO h14 a0 4 (bI (qPs_pass a0 a1 (3 : Int32) h14) (fun v16 h15 =>
                        rZ v16 h15)))))))))))))))))
-- LineDiagram$Plan.lineNamed(I)I
def qP_lineNamed_2_b (k2 : Nat → Int32 → Int32 → XH → XR) (a0 : Nat) (x1 : Int32) (x2 : Int32) (h : XH) : XR :=
  gI h a0 5 3 (fun v1 =>
  if x2 < v1 then
    (gR h a0 5 4 (fun a_2 =>
      rdR h a_2 x2 (fun a_3 =>
        gI h a_3 3 0 (fun v4 =>
          if v4 = x1 then
            (rI x2 h)
            else
            k2 a0 x1 (x2 + (1 : Int32)) h))))
    else
    rI (-1 : Int32) h)
def qP_lineNamed_2 : Nat → Nat → Int32 → Int32 → XH → XR
  | 0 => fun _ _ _ _ => none
  | n + 1 => qP_lineNamed_2_b (qP_lineNamed_2 n)
def qP_lineNamed (a0 : Nat) (x1 : Int32) (h : XH) : XR :=
  qP_lineNamed_2 LF a0 x1 (0 : Int32) h
-- LineDiagram$Parser.readHead(LLineDiagram$Text;LLineDiagram$Plan;LLineDiagram$Line;)Z
def qPs_readHead (a0 : Nat) (a1 : Nat) (a2 : Nat) (a3 : Nat) (h : XH) : XR :=
  pV h a3 3 1 (.int (0 : Int32)) (fun h1 =>
  isO h1 a0 4 (bI (qPs_pass a0 a1 (7 : Int32) h1) (fun v3 h2 =>
    if v3 = (0 : Int32) then
      (rI (0 : Int32) h2)
      else
      gI h2 a0 4 2 (fun v4 =>
        if v4 = (4 : Int32) then
          (gI h2 a0 4 3 (fun v5 =>
            isO h2 a2 5 (bI (qP_lineNamed a2 v5 h2) (fun v7 h6 =>
              if v7 < (0 : Int32) then
                (gI h6 a0 4 3 (fun v8 =>
                  pV h6 a3 3 0 (.int v8) (fun h9 =>
                    isO h9 a0 4 (bV (qPs_scan a0 a1 h9) (fun h10 =>
                      isO h10 a0 4 (bI (qPs_pass a0 a1 (8 : Int32) h10) (fun v12 h11 =>
                        if v12 = (0 : Int32) then
                        (rI (0 : Int32) h11)
                        else
                        isO h11 a0 4 (bI (qPs_readNumber a0 a1 (1 : Int32) (10 : Int32) h11) (fun v14 h13 =>
                        if v14 = (0 : Int32) then
                        (rI (0 : Int32) h13)
                        else
                        gI h13 a0 4 4 (fun v15 =>
                        pV h13 a3 3 3 (.int v15) (fun h16 =>
                        isO h16 a0 4 (bI (qPs_pass a0 a1 (9 : Int32) h16) (fun v18 h17 =>
                        if v18 = (0 : Int32) then
                        (rI (0 : Int32) h17)
                        else
                        isO h17 a0 4 (bI (qPs_readNumber a0 a1 (2 : Int32) (20 : Int32) h17) (fun v20 h19 =>
                        if v20 = (0 : Int32) then
                        (rI (0 : Int32) h19)
                        else
                        gI h19 a0 4 4 (fun v21 =>
                        pV h19 a3 3 2 (.int v21) (fun h22 =>
                        rI (1 : Int32) h22)))))))))))))))))
                else
                rI (0 : Int32) h6))))
          else
          rI (0 : Int32) h2))))
