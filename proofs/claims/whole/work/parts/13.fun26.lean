-- LineDiagram$Plan.describeLine(LLineDiagram$Line;LLineDiagram$Text;)V
def qP_describeLine_84 (a1 : Nat) (h : XH) : XR :=
  isO h a1 6 (bV (qT_addByte a1 (59 : Int32) h) (fun h1 =>
  rV h1))
def qP_describeLine_44_b (k44 : Nat → Nat → Int32 → XH → XR) (a0 : Nat) (a1 : Nat) (x2 : Int32) (h : XH) : XR :=
  gI h a0 3 1 (fun v1 =>
  if x2 < v1 then
    (gS h 15 (fun a_2 =>
      isO h a1 6 (bV (qT_addWord a1 a_2 h) (fun h3 =>
        gR h3 a0 3 4 (fun a_4 =>
          rdI h3 a_4 x2 (fun v5 =>
            isO h3 a1 6 (bV (qT_addNumber a1 v5 h3) (fun h6 =>
              gR h6 a0 3 5 (fun a_7 =>
                rdI h6 a_7 x2 (fun v8 =>
                  isO h6 a1 6 (bV (qT_addNumber a1 v8 h6) (fun h9 =>
                    k44 a0 a1 (x2 + (1 : Int32)) h9))))))))))))
    else
    qP_describeLine_84 a1 h)
def qP_describeLine_44 : Nat → Nat → Nat → Int32 → XH → XR
  | 0 => fun _ _ _ _ => none
  | n + 1 => qP_describeLine_44_b (qP_describeLine_44 n)
def qP_describeLine (a0 : Nat) (a1 : Nat) (h : XH) : XR :=
  gS h 12 (fun a_1 =>
  isO h a1 6 (bV (qT_addWord a1 a_1 h) (fun h2 =>
    gI h2 a0 3 0 (fun v3 =>
      isO h2 a1 6 (bV (qT_addName a1 v3 h2) (fun h4 =>
        gS h4 13 (fun a_5 =>
          isO h4 a1 6 (bV (qT_addWord a1 a_5 h4) (fun h6 =>
            gI h6 a0 3 3 (fun v7 =>
              isO h6 a1 6 (bV (qT_addNumber a1 v7 h6) (fun h8 =>
                gS h8 14 (fun a_9 =>
                  isO h8 a1 6 (bV (qT_addWord a1 a_9 h8) (fun h10 =>
                    gI h10 a0 3 2 (fun v11 =>
                      isO h10 a1 6 (bV (qT_addNumber a1 v11 h10) (fun h12 =>
                        qP_describeLine_44 LF a0 a1 (0 : Int32) h12))))))))))))))))))
-- LineDiagram$Plan.describe(LLineDiagram$Text;)V
def qP_describe_49_b (k49 : Nat → Nat → Int32 → XH → XR) (a0 : Nat) (a1 : Nat) (x2 : Int32) (h : XH) : XR :=
  gI h a0 5 3 (fun v1 =>
  if x2 < v1 then
    (gR h a0 5 4 (fun a_2 =>
      rdR h a_2 x2 (fun a_3 =>
        bV (qP_describeLine a_3 a1 h) (fun h4 =>
          k49 a0 a1 (x2 + (1 : Int32)) h4))))
    else
    rV h)
def qP_describe_49 : Nat → Nat → Nat → Int32 → XH → XR
  | 0 => fun _ _ _ _ => none
  | n + 1 => qP_describe_49_b (qP_describe_49 n)
def qP_describe (a0 : Nat) (a1 : Nat) (h : XH) : XR :=
  pV h a1 6 0 (.int (0 : Int32)) (fun h1 =>
  gS h1 10 (fun a_2 =>
    isO h1 a1 6 (bV (qT_addWord a1 a_2 h1) (fun h3 =>
      gI h3 a0 5 0 (fun v4 =>
        isO h3 a1 6 (bV (qT_addNumber a1 v4 h3) (fun h5 =>
          gI h5 a0 5 1 (fun v6 =>
            isO h5 a1 6 (bV (qT_addNumber a1 v6 h5) (fun h7 =>
              gS h7 11 (fun a_8 =>
                isO h7 a1 6 (bV (qT_addWord a1 a_8 h7) (fun h9 =>
                  gI h9 a0 5 2 (fun v10 =>
                    isO h9 a1 6 (bV (qT_addNumber a1 v10 h9) (fun h11 =>
                      isO h11 a1 6 (bV (qT_addByte a1 (59 : Int32) h11) (fun h12 =>
                        qP_describe_49 LF a0 a1 (0 : Int32) h12))))))))))))))))))
-- LineDiagram.setupLength()I
def qD_setupLength (a0 : Nat) (h : XH) : XR :=
  gR h a0 8 3 (fun a_1 =>
  gR h a0 8 1 (fun a_2 =>
    isO h a_1 5 (bV (qP_describe a_1 a_2 h) (fun h3 =>
      gR h3 a0 8 1 (fun a_4 =>
        gI h3 a_4 6 0 (fun v5 =>
          rI v5 h3))))))
-- LineDiagramModel.saysNumber(I)V
def qM_saysNumber_18_b (k18 : Nat → Int32 → Int32 → XH → XR) (a0 : Nat) (x1 : Int32) (x2 : Int32) (h : XH) : XR :=
  if (0 : Int32) < x2 then
  (if x2 = 0 then none else
    isO h a0 9 (bV (qM_says a0 ((48 : Int32) + (jrem (x1 / x2) (10 : Int32))) h) (fun h1 =>
      k18 a0 x1 (x2 / (10 : Int32)) h1)))
  else
  rV h
def qM_saysNumber_18 : Nat → Nat → Int32 → Int32 → XH → XR
  | 0 => fun _ _ _ _ => none
  | n + 1 => qM_saysNumber_18_b (qM_saysNumber_18 n)
def qM_saysNumber_2_b (k2 : Nat → Int32 → Int32 → XH → XR) (a0 : Nat) (x1 : Int32) (x2 : Int32) (h : XH) : XR :=
  if x2 = 0 then none else
  if (9 : Int32) < (x1 / x2) then
    (k2 a0 x1 (x2 * (10 : Int32)) h)
    else
    qM_saysNumber_18 LF a0 x1 x2 h
def qM_saysNumber_2 : Nat → Nat → Int32 → Int32 → XH → XR
  | 0 => fun _ _ _ _ => none
  | n + 1 => qM_saysNumber_2_b (qM_saysNumber_2 n)
def qM_saysNumber (a0 : Nat) (x1 : Int32) (h : XH) : XR :=
  qM_saysNumber_2 LF a0 x1 (1 : Int32) h
-- LineDiagramModel.saysWord(J)V
def qM_saysWord_3_b (k3 : Nat → Int64 → Int32 → XH → XR) (a0 : Nat) (l1 : Int64) (x3 : Int32) (h : XH) : XR :=
  if x3 < (0 : Int32) then
  (rV h)
  else
  if (0 : Int32) < (((jlshr l1 x3) &&& (31 : Int64)).toInt32) then
    (isO h a0 9 (bV (qM_says a0 ((96 : Int32) + (((jlshr l1 x3) &&& (31 : Int64)).toInt32)) h) (fun h1 =>
      k3 a0 l1 (x3 + (-5 : Int32)) h1)))
    else
    k3 a0 l1 (x3 + (-5 : Int32)) h
def qM_saysWord_3 : Nat → Nat → Int64 → Int32 → XH → XR
  | 0 => fun _ _ _ _ => none
  | n + 1 => qM_saysWord_3_b (qM_saysWord_3 n)
def qM_saysWord (a0 : Nat) (l1 : Int64) (h : XH) : XR :=
  qM_saysWord_3 LF a0 l1 (35 : Int32) h
-- LineDiagramModel.saysPair(JI)V
def qM_saysPair (a0 : Nat) (l1 : Int64) (x3 : Int32) (h : XH) : XR :=
  isO h a0 9 (bV (qM_saysWord a0 l1 h) (fun h1 =>
  isO h1 a0 9 (bV (qM_says a0 (32 : Int32) h1) (fun h2 =>
    isO h2 a0 9 (bV (qM_saysNumber a0 x3 h2) (fun h3 =>
      rV h3))))))
-- LineDiagramModel.saysLine(I)V
def qM_saysLine_115 (a0 : Nat) (h : XH) : XR :=
  isO h a0 9 (bV (qM_says a0 (59 : Int32) h) (fun h1 =>
  rV h1))
def qM_saysLine_64_b (k64 : Nat → Int32 → Int32 → XH → XR) (a0 : Nat) (x1 : Int32) (x2 : Int32) (h : XH) : XR :=
  isO h a0 9 (bI (qM_of a0 x1 (2 : Int32) h) (fun v2 h1 =>
  if x2 < v2 then
    (isO h1 a0 9 (bV (qM_says a0 (32 : Int32) h1) (fun h3 =>
      isO h3 a0 9 (bI (qM_px a0 x1 x2 h3) (fun v5 h4 =>
        isO h4 a0 9 (bV (qM_saysPair a0 (52 : Int64) v5 h4) (fun h6 =>
          isO h6 a0 9 (bV (qM_says a0 (32 : Int32) h6) (fun h7 =>
            isO h7 a0 9 (bI (qM_py a0 x1 x2 h7) (fun v9 h8 =>
              isO h8 a0 9 (bV (qM_saysNumber a0 v9 h8) (fun h10 =>
                k64 a0 x1 (x2 + (1 : Int32)) h10)))))))))))))
    else
    qM_saysLine_115 a0 h1))
def qM_saysLine_64 : Nat → Nat → Int32 → Int32 → XH → XR
  | 0 => fun _ _ _ _ => none
  | n + 1 => qM_saysLine_64_b (qM_saysLine_64 n)
def qM_saysLine (a0 : Nat) (x1 : Int32) (h : XH) : XR :=
  isO h a0 9 (bV (qM_saysWord a0 (402885 : Int64) h) (fun h1 =>
  isO h1 a0 9 (bV (qM_says a0 (32 : Int32) h1) (fun h2 =>
    gR h2 a0 9 7 (fun a_3 =>
      rdI h2 a_3 x1 (fun v4 =>
        isO h2 a0 9 (bV (qM_saysWord a0 (v4.toInt64) h2) (fun h5 =>
          isO h5 a0 9 (bV (qM_says a0 (32 : Int32) h5) (fun h6 =>
            isO h6 a0 9 (bI (qM_of a0 x1 (0 : Int32) h6) (fun v8 h7 =>
              isO h7 a0 9 (bV (qM_saysPair a0 (632645 : Int64) v8 h7) (fun h9 =>
                isO h9 a0 9 (bV (qM_says a0 (32 : Int32) h9) (fun h10 =>
                  isO h10 a0 9 (bI (qM_of a0 x1 (1 : Int32) h10) (fun v12 h11 =>
                    isO h11 a0 9 (bV (qM_saysPair a0 (20594195 : Int64) v12 h11) (fun h13 =>
                      qM_saysLine_64 LF a0 x1 (0 : Int32) h13))))))))))))))))))))
-- LineDiagramModel.saysSetup(I)V
def qM_saysSetup_55_b (k55 : Nat → Int32 → XH → XR) (a0 : Nat) (x2 : Int32) (h : XH) : XR :=
  gI h a0 9 6 (fun v1 =>
  if x2 < v1 then
    (isO h a0 9 (bV (qM_saysLine a0 x2 h) (fun h2 =>
      k55 a0 (x2 + (1 : Int32)) h2)))
    else
    rV h)
def qM_saysSetup_55 : Nat → Nat → Int32 → XH → XR
  | 0 => fun _ _ _ => none
  | n + 1 => qM_saysSetup_55_b (qM_saysSetup_55 n)
def qM_saysSetup (a0 : Nat) (x1 : Int32) (h : XH) : XR :=
  isO h a0 9 (bV (qM_startsText a0 x1 h) (fun h1 =>
  gI h1 a0 9 3 (fun v2 =>
    isO h1 a0 9 (bV (qM_saysPair a0 (2590276 : Int64) v2 h1) (fun h3 =>
      isO h3 a0 9 (bV (qM_says a0 (32 : Int32) h3) (fun h4 =>
        gI h4 a0 9 4 (fun v5 =>
          isO h4 a0 9 (bV (qM_saysNumber a0 v5 h4) (fun h6 =>
            isO h6 a0 9 (bV (qM_says a0 (32 : Int32) h6) (fun h7 =>
              gI h7 a0 9 5 (fun v8 =>
                isO h7 a0 9 (bV (qM_saysPair a0 (677454 : Int64) v8 h7) (fun h9 =>
                  isO h9 a0 9 (bV (qM_says a0 (59 : Int32) h9) (fun h10 =>
                    qM_saysSetup_55 LF a0 (0 : Int32) h10)))))))))))))))))
-- LineDiagramModel.setupLength()I
def qM_setupLength (a0 : Nat) (h : XH) : XR :=
  isO h a0 9 (bV (qM_saysSetup a0 (-1 : Int32) h) (fun h1 =>
  gI h1 a0 9 41 (fun v2 =>
    rI v2 h1)))
-- LineDiagram.setupByte(I)I
def qD_setupByte (a0 : Nat) (x1 : Int32) (h : XH) : XR :=
  if x1 < (0 : Int32) then
  (rI (-1 : Int32) h)
  else
  gR h a0 8 3 (fun a_1 =>
    gR h a0 8 1 (fun a_2 =>
      isO h a_1 5 (bV (qP_describe a_1 a_2 h) (fun h3 =>
        gR h3 a0 8 1 (fun a_4 =>
          gI h3 a_4 6 0 (fun v5 =>
            if x1 < v5 then
              (gR h3 a0 8 1 (fun a_6 =>
                isO h3 a_6 6 (bI (qT_byteAt a_6 x1 h3) (fun v8 h7 =>
                  rI v8 h7))))
              else
              rI (-2 : Int32) h3))))))
-- LineDiagramModel.setupByte(I)I
def qM_setupByte (a0 : Nat) (x1 : Int32) (h : XH) : XR :=
  if x1 < (0 : Int32) then
  (rI (-1 : Int32) h)
  else
  isO h a0 9 (bV (qM_saysSetup a0 x1 h) (fun h1 =>
    gI h1 a0 9 43 (fun v2 =>
      rI v2 h1)))
-- LineDiagram.tapeLength()I
def qD_tapeLength (a0 : Nat) (h : XH) : XR :=
  gR h a0 8 0 (fun a_1 =>
  gI h a_1 6 0 (fun v2 =>
    rI v2 h))
