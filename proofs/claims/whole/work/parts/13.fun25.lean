-- LineDiagram$Board.byteOf(I)I
def qB_byteOf (a0 : Nat) (x1 : Int32) (h : XH) : XR :=
  gR h a0 0 4 (fun a_1 =>
  rdI h a_1 x1 (fun v2 =>
    if (0 : Int32) < v2 then
      (rI (111 : Int32) h)
      else
      isO h a0 0 (bI (qB_isCrossing a0 x1 (255 : Int32) h) (fun v4 h3 =>
        if v4 = (0 : Int32) then
          (gR h3 a0 0 2 (fun a_5 =>
            rdI h3 a_5 x1 (fun v6 =>
              if v6 = (0 : Int32) then
                (gR h3 a0 0 7 (fun a_7 =>
                  rdI h3 a_7 x1 (fun v8 =>
                    if v8 = (0 : Int32) then
                      (rI (46 : Int32) h3)
                      else
                      rI (61 : Int32) h3)))
                else
                isO h3 a0 0 (bI (qB_firstLineOn a0 x1 h3) (fun v10 h9 =>
                  rI ((48 : Int32) + v10) h9)))))
          else
          rI (43 : Int32) h3))))
-- LineDiagram.pictureByte(I)I
def qD_pictureByte (a0 : Nat) (x1 : Int32) (h : XH) : XR :=
  if x1 < (0 : Int32) then
  (rI (-1 : Int32) h)
  else
  gR h a0 8 3 (fun a_1 =>
    gI h a_1 5 0 (fun v2 =>
      if (v2 + (1 : Int32)) < (1 : Int32) then
        (rI (-2 : Int32) h)
        else
        gR h a0 8 3 (fun a_3 =>
          gI h a_3 5 1 (fun v4 =>
            if x1 < ((v2 + (1 : Int32)) * v4) then
              (if (v2 + (1 : Int32)) = 0 then none else
                gR h a0 8 3 (fun a_5 =>
                  gI h a_5 5 0 (fun v6 =>
                    if (jrem x1 (v2 + (1 : Int32))) = v6 then
                      (rI (10 : Int32) h)
                      else
                      gR h a0 8 8 (fun a_7 =>
                        if (v2 + (1 : Int32)) = 0 then none else
                        bI (qD_cellAt (jrem x1 (v2 + (1 : Int32))) (x1 / (v2 + (1 : Int32))) h) (fun v9 h8 =>
                        isO h8 a_7 0 (bI (qB_byteOf a_7 v9 h8) (fun v11 h10 =>
                        rI v11 h10)))))))
              else
              rI (-2 : Int32) h))))
-- LineDiagramModel.pictureByte(I)I
def qM_pictureByte (a0 : Nat) (x1 : Int32) (h : XH) : XR :=
  if x1 < (0 : Int32) then
  (rI (-1 : Int32) h)
  else
  isO h a0 9 (bV (qM_saysPicture a0 x1 h) (fun h1 =>
    gI h1 a0 9 43 (fun v2 =>
      rI v2 h1)))
-- java/lang/String.coder()B
def qJS_coder (a0 : Nat) (h : XH) : XR :=
  gT h 3 (fun v1 =>
  if v1 = (0 : Int32) then
    (rN7 (1 : Int32) h)
    else
    gI h a0 10 1 (fun v2 =>
      rN7 v2 h))
-- java/lang/String.length()I
def qJS_length (a0 : Nat) (h : XH) : XR :=
  gR h a0 10 0 (fun a_1 =>
  lnA h a_1 (fun v2 =>
    isO h a0 10 (bI (qJS_coder a0 h) (fun v4 h3 =>
      rI (jshr v2 v4) h3))))
-- java/lang/String.isLatin1()Z
def qJS_isLatin1 (a0 : Nat) (h : XH) : XR :=
  gT h 3 (fun v1 =>
  if v1 = (0 : Int32) then
    (rI (0 : Int32) h)
    else
    gI h a0 10 1 (fun v2 =>
      if v2 = (0 : Int32) then
        (rI (1 : Int32) h)
        else
        rI (0 : Int32) h))
-- java/lang/String.checkIndex(II)V
def qJS_checkIndex (x0 : Int32) (x1 : Int32) (h : XH) : XR :=
  bI (qJP_checkIndex x0 x1 (h.1.1 4) h) (fun v2 h1 =>
  rV h1)
-- java/lang/StringLatin1.charAt([BI)C
def qJL_charAt (a0 : Nat) (x1 : Int32) (h : XH) : XR :=
  lnA h a0 (fun v1 =>
  bV (qJS_checkIndex x1 v1 h) (fun h2 =>
    rdB h2 a0 x1 (fun v3 =>
      rN8 (((v3 &&& (255 : Int32)).toUInt32 % 65536).toInt32) h2)))
-- java/lang/String.charAt(I)C
def qJS_charAt (a0 : Nat) (x1 : Int32) (h : XH) : XR :=
  isO h a0 10 (bI (qJS_isLatin1 a0 h) (fun v2 h1 =>
  if v2 = (0 : Int32) then
    (gR h1 a0 10 0 (fun a_3 =>
      none))
    else
    gR h1 a0 10 0 (fun a_4 =>
      bI (qJL_charAt a_4 x1 h1) (fun v6 h5 =>
        rN8 v6 h5))))
-- LineDiagram$Text.addWord(Ljava/lang/String;)V
def qT_addWord_2_b (k2 : Nat → Nat → Int32 → XH → XR) (a0 : Nat) (a1 : Nat) (x2 : Int32) (h : XH) : XR :=
  isO h a1 10 (bI (qJS_length a1 h) (fun v2 h1 =>
  if x2 < v2 then
    (isO h1 a1 10 (bI (qJS_charAt a1 x2 h1) (fun v4 h3 =>
      isO h3 a0 6 (bV (qT_addByte a0 v4 h3) (fun h5 =>
        k2 a0 a1 (x2 + (1 : Int32)) h5)))))
    else
    rV h1))
def qT_addWord_2 : Nat → Nat → Nat → Int32 → XH → XR
  | 0 => fun _ _ _ _ => none
  | n + 1 => qT_addWord_2_b (qT_addWord_2 n)
def qT_addWord (a0 : Nat) (a1 : Nat) (h : XH) : XR :=
  qT_addWord_2 LF a0 a1 (0 : Int32) h
-- LineDiagram$Text.addNumber(I)V
def qT_addNumber_23 (a0 : Nat) (x1 : Int32) (h : XH) : XR :=
  isO h a0 6 (bV (qT_addByte a0 ((48 : Int32) + (jrem x1 (10 : Int32))) h) (fun h1 =>
  rV h1))
def qT_addNumber (a0 : Nat) (x1 : Int32) (h : XH) : XR :=
  isO h a0 6 (bV (qT_addByte a0 (32 : Int32) h) (fun h1 =>
  if x1 < (10 : Int32) then
    (qT_addNumber_23 a0 x1 h1)
    else
    isO h1 a0 6 (bV (qT_addByte a0 ((48 : Int32) + (x1 / (10 : Int32))) h1) (fun h2 =>
      qT_addNumber_23 a0 x1 h2))))
-- LineDiagram$Text.addName(I)V
def qT_addName_2_b (k2 : Nat → Int32 → Int32 → XH → XR) (a0 : Nat) (x1 : Int32) (x2 : Int32) (h : XH) : XR :=
  if x2 < (6 : Int32) then
  (bI (qD_letterOf x1 x2 h) (fun v2 h1 =>
    if v2 = (0 : Int32) then
      (k2 a0 x1 (x2 + (1 : Int32)) h1)
      else
      isO h1 a0 6 (bV (qT_addByte a0 ((96 : Int32) + v2) h1) (fun h3 =>
        k2 a0 x1 (x2 + (1 : Int32)) h3))))
  else
  rV h
def qT_addName_2 : Nat → Nat → Int32 → Int32 → XH → XR
  | 0 => fun _ _ _ _ => none
  | n + 1 => qT_addName_2_b (qT_addName_2 n)
def qT_addName (a0 : Nat) (x1 : Int32) (h : XH) : XR :=
  qT_addName_2 LF a0 x1 (0 : Int32) h
