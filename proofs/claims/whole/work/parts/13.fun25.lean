-- LineDiagram$Board.byteOf(I)I
def qB_byteOf (a0 : Nat) (x1 : Int32) (h : XH) : XR :=
  gR h a0 0 4 (fun a_1 =>
  rdI h a_1 x1 (fun v2 =>
    if (0 : Int32) < v2 then
      (rI (111 : Int32) h)
      else
      isO h a0 0 (bI (qB_isCrossing a0 x1 (255 : Int32) h) (fun v4 h3 =>
        if v4 = (0 : Int32) then
          (gR h3 a0 0 2 (fun a_5 =>
            rdI h3 a_5 x1 (fun v6 =>
              if v6 = (0 : Int32) then
                (gR h3 a0 0 7 (fun a_7 =>
                  rdI h3 a_7 x1 (fun v8 =>
                    if v8 = (0 : Int32) then
                      (rI (46 : Int32) h3)
                      else
                      rI (61 : Int32) h3)))
                else
                isO h3 a0 0 (bI (qB_firstLineOn a0 x1 h3) (fun v10 h9 =>
                  rI ((48 : Int32) + v10) h9)))))
          else
          rI (43 : Int32) h3))))
-- LineDiagram.pictureByte(I)I
def qD_pictureByte (a0 : Nat) (x1 : Int32) (h : XH) : XR :=
  if x1 < (0 : Int32) then
  (rI (-1 : Int32) h)
  else
  gR h a0 8 3 (fun a_1 =>
    gI h a_1 5 0 (fun v2 =>
      if (v2 + (1 : Int32)) < (1 : Int32) then
        (rI (-2 : Int32) h)
        else
        gR h a0 8 3 (fun a_3 =>
          gI h a_3 5 1 (fun v4 =>
            if x1 < ((v2 + (1 : Int32)) * v4) then
              (if (v2 + (1 : Int32)) = 0 then none else
                gR h a0 8 3 (fun a_5 =>
                  gI h a_5 5 0 (fun v6 =>
                    if (jrem x1 (v2 + (1 : Int32))) = v6 then
                      (rI (10 : Int32) h)
                      else
                      gR h a0 8 8 (fun a_7 =>
                        if (v2 + (1 : Int32)) = 0 then none else
                        bI (qD_cellAt (jrem x1 (v2 + (1 : Int32))) (x1 / (v2 + (1 : Int32))) h) (fun v9 h8 =>
                        isO h8 a_7 0 (bI (qB_byteOf a_7 v9 h8) (fun v11 h10 =>
                        rI v11 h10)))))))
              else
              rI (-2 : Int32) h))))
-- LineDiagramModel.pictureByte(I)I
def qM_pictureByte (a0 : Nat) (x1 : Int32) (h : XH) : XR :=
  if x1 < (0 : Int32) then
  (rI (-1 : Int32) h)
  else
  isO h a0 9 (bV (qM_saysPicture a0 x1 h) (fun h1 =>
    gI h1 a0 9 43 (fun v2 =>
      rI v2 h1)))
-- java/lang/String.coder()B
def qJS_coder (a0 : Nat) (h : XH) : XR :=
  gT h 3 (fun v1 =>
  if v1 = (0 : Int32) then
    (rN7 (1 : Int32) h)
    else
    gI h a0 10 1 (fun v2 =>
      rN7 v2 h))
-- java/lang/String.length()I
def qJS_length (a0 : Nat) (h : XH) : XR :=
  gR h a0 10 0 (fun a_1 =>
  lnA h a_1 (fun v2 =>
    isO h a0 10 (bI (qJS_coder a0 h) (fun v4 h3 =>
      rI (jshr v2 v4) h3))))
-- LineDiagram$Text.addNumber(I)V
def qT_addNumber_23 (a0 : Nat) (x1 : Int32) (h : XH) : XR :=
  isO h a0 6 (bV (qT_addByte a0 ((48 : Int32) + (jrem x1 (10 : Int32))) h) (fun h1 =>
  rV h1))
def qT_addNumber (a0 : Nat) (x1 : Int32) (h : XH) : XR :=
  isO h a0 6 (bV (qT_addByte a0 (32 : Int32) h) (fun h1 =>
  if x1 < (10 : Int32) then
    (qT_addNumber_23 a0 x1 h1)
    else
    isO h1 a0 6 (bV (qT_addByte a0 ((48 : Int32) + (x1 / (10 : Int32))) h1) (fun h2 =>
      qT_addNumber_23 a0 x1 h2))))
-- LineDiagram$Text.addName(I)V
def qT_addName_2_b (k2 : Nat → Int32 → Int32 → XH → XR) (a0 : Nat) (x1 : Int32) (x2 : Int32) (h : XH) : XR :=
  if x2 < (6 : Int32) then
  (bI (qD_letterOf x1 x2 h) (fun v2 h1 =>
    if v2 = (0 : Int32) then
      (k2 a0 x1 (x2 + (1 : Int32)) h1)
      else
      isO h1 a0 6 (bV (qT_addByte a0 ((96 : Int32) + v2) h1) (fun h3 =>
        k2 a0 x1 (x2 + (1 : Int32)) h3))))
  else
  rV h
def qT_addName_2 : Nat → Nat → Int32 → Int32 → XH → XR
  | 0 => fun _ _ _ _ => none
  | n + 1 => qT_addName_2_b (qT_addName_2 n)
def qT_addName (a0 : Nat) (x1 : Int32) (h : XH) : XR :=
  qT_addName_2 LF a0 x1 (0 : Int32) h
-- LineDiagramModel.saysNumber(I)V
def qM_saysNumber_18_b (k18 : Nat → Int32 → Int32 → XH → XR) (a0 : Nat) (x1 : Int32) (x2 : Int32) (h : XH) : XR :=
  if (0 : Int32) < x2 then
  (if x2 = 0 then none else
    isO h a0 9 (bV (qM_says a0 ((48 : Int32) + (jrem (x1 / x2) (10 : Int32))) h) (fun h1 =>
      k18 a0 x1 (x2 / (10 : Int32)) h1)))
  else
  rV h
def qM_saysNumber_18 : Nat → Nat → Int32 → Int32 → XH → XR
  | 0 => fun _ _ _ _ => none
  | n + 1 => qM_saysNumber_18_b (qM_saysNumber_18 n)
def qM_saysNumber_2_b (k2 : Nat → Int32 → Int32 → XH → XR) (a0 : Nat) (x1 : Int32) (x2 : Int32) (h : XH) : XR :=
  if x2 = 0 then none else
  if (9 : Int32) < (x1 / x2) then
    (k2 a0 x1 (x2 * (10 : Int32)) h)
    else
    qM_saysNumber_18 LF a0 x1 x2 h
def qM_saysNumber_2 : Nat → Nat → Int32 → Int32 → XH → XR
  | 0 => fun _ _ _ _ => none
  | n + 1 => qM_saysNumber_2_b (qM_saysNumber_2 n)
def qM_saysNumber (a0 : Nat) (x1 : Int32) (h : XH) : XR :=
  qM_saysNumber_2 LF a0 x1 (1 : Int32) h
-- LineDiagramModel.saysWord(J)V
def qM_saysWord_3_b (k3 : Nat → Int64 → Int32 → XH → XR) (a0 : Nat) (l1 : Int64) (x3 : Int32) (h : XH) : XR :=
  if x3 < (0 : Int32) then
  (rV h)
  else
  if (0 : Int32) < (((jlshr l1 x3) &&& (31 : Int64)).toInt32) then
    (isO h a0 9 (bV (qM_says a0 ((96 : Int32) + (((jlshr l1 x3) &&& (31 : Int64)).toInt32)) h) (fun h1 =>
      k3 a0 l1 (x3 + (-5 : Int32)) h1)))
    else
    k3 a0 l1 (x3 + (-5 : Int32)) h
def qM_saysWord_3 : Nat → Nat → Int64 → Int32 → XH → XR
  | 0 => fun _ _ _ _ => none
  | n + 1 => qM_saysWord_3_b (qM_saysWord_3 n)
def qM_saysWord (a0 : Nat) (l1 : Int64) (h : XH) : XR :=
  qM_saysWord_3 LF a0 l1 (35 : Int32) h
-- LineDiagramModel.saysPair(JI)V
def qM_saysPair (a0 : Nat) (l1 : Int64) (x3 : Int32) (h : XH) : XR :=
  isO h a0 9 (bV (qM_saysWord a0 l1 h) (fun h1 =>
  isO h1 a0 9 (bV (qM_says a0 (32 : Int32) h1) (fun h2 =>
    isO h2 a0 9 (bV (qM_saysNumber a0 x3 h2) (fun h3 =>
      rV h3))))))
-- LineDiagramModel.saysLine(I)V
def qM_saysLine_115 (a0 : Nat) (h : XH) : XR :=
  isO h a0 9 (bV (qM_says a0 (59 : Int32) h) (fun h1 =>
  rV h1))
def qM_saysLine_64_b (k64 : Nat → Int32 → Int32 → XH → XR) (a0 : Nat) (x1 : Int32) (x2 : Int32) (h : XH) : XR :=
  isO h a0 9 (bI (qM_of a0 x1 (2 : Int32) h) (fun v2 h1 =>
  if x2 < v2 then
    (isO h1 a0 9 (bV (qM_says a0 (32 : Int32) h1) (fun h3 =>
      isO h3 a0 9 (bI (qM_px a0 x1 x2 h3) (fun v5 h4 =>
        isO h4 a0 9 (bV (qM_saysPair a0 (52 : Int64) v5 h4) (fun h6 =>
          isO h6 a0 9 (bV (qM_says a0 (32 : Int32) h6) (fun h7 =>
            isO h7 a0 9 (bI (qM_py a0 x1 x2 h7) (fun v9 h8 =>
              isO h8 a0 9 (bV (qM_saysNumber a0 v9 h8) (fun h10 =>
                k64 a0 x1 (x2 + (1 : Int32)) h10)))))))))))))
    else
    qM_saysLine_115 a0 h1))
def qM_saysLine_64 : Nat → Nat → Int32 → Int32 → XH → XR
  | 0 => fun _ _ _ _ => none
  | n + 1 => qM_saysLine_64_b (qM_saysLine_64 n)
def qM_saysLine (a0 : Nat) (x1 : Int32) (h : XH) : XR :=
  isO h a0 9 (bV (qM_saysWord a0 (402885 : Int64) h) (fun h1 =>
  isO h1 a0 9 (bV (qM_says a0 (32 : Int32) h1) (fun h2 =>
    gR h2 a0 9 7 (fun a_3 =>
      rdI h2 a_3 x1 (fun v4 =>
        isO h2 a0 9 (bV (qM_saysWord a0 (v4.toInt64) h2) (fun h5 =>
          isO h5 a0 9 (bV (qM_says a0 (32 : Int32) h5) (fun h6 =>
            isO h6 a0 9 (bI (qM_of a0 x1 (0 : Int32) h6) (fun v8 h7 =>
              isO h7 a0 9 (bV (qM_saysPair a0 (632645 : Int64) v8 h7) (fun h9 =>
                isO h9 a0 9 (bV (qM_says a0 (32 : Int32) h9) (fun h10 =>
                  isO h10 a0 9 (bI (qM_of a0 x1 (1 : Int32) h10) (fun v12 h11 =>
                    isO h11 a0 9 (bV (qM_saysPair a0 (20594195 : Int64) v12 h11) (fun h13 =>
                      qM_saysLine_64 LF a0 x1 (0 : Int32) h13))))))))))))))))))))
-- LineDiagramModel.saysSetup(I)V
def qM_saysSetup_55_b (k55 : Nat → Int32 → XH → XR) (a0 : Nat) (x2 : Int32) (h : XH) : XR :=
  gI h a0 9 6 (fun v1 =>
  if x2 < v1 then
    (isO h a0 9 (bV (qM_saysLine a0 x2 h) (fun h2 =>
      k55 a0 (x2 + (1 : Int32)) h2)))
    else
    rV h)
def qM_saysSetup_55 : Nat → Nat → Int32 → XH → XR
  | 0 => fun _ _ _ => none
  | n + 1 => qM_saysSetup_55_b (qM_saysSetup_55 n)
def qM_saysSetup (a0 : Nat) (x1 : Int32) (h : XH) : XR :=
  isO h a0 9 (bV (qM_startsText a0 x1 h) (fun h1 =>
  gI h1 a0 9 3 (fun v2 =>
    isO h1 a0 9 (bV (qM_saysPair a0 (2590276 : Int64) v2 h1) (fun h3 =>
      isO h3 a0 9 (bV (qM_says a0 (32 : Int32) h3) (fun h4 =>
        gI h4 a0 9 4 (fun v5 =>
          isO h4 a0 9 (bV (qM_saysNumber a0 v5 h4) (fun h6 =>
            isO h6 a0 9 (bV (qM_says a0 (32 : Int32) h6) (fun h7 =>
              gI h7 a0 9 5 (fun v8 =>
                isO h7 a0 9 (bV (qM_saysPair a0 (677454 : Int64) v8 h7) (fun h9 =>
                  isO h9 a0 9 (bV (qM_says a0 (59 : Int32) h9) (fun h10 =>
                    qM_saysSetup_55 LF a0 (0 : Int32) h10)))))))))))))))))
