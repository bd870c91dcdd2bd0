-- LineDiagram.isName(I)Z
def qD_isName_53 (k17 : Int32 → Int32 → Int32 → XH → XR) (x0 : Int32) (x2 : Int32) (x3 : Int32) (h : XH) : XR :=
  if x3 = (0 : Int32) then
  (k17 x0 (1 : Int32) (x2 + (1 : Int32)) h)
  else
  k17 x0 (0 : Int32) (x2 + (1 : Int32)) h
def qD_isName_43 (k17 : Int32 → Int32 → Int32 → XH → XR) (x0 : Int32) (x2 : Int32) (x3 : Int32) (h : XH) : XR :=
  if x2 = (0 : Int32) then
  (if x3 = (0 : Int32) then
    (rI (0 : Int32) h)
    else
    qD_isName_53 k17 x0 x2 x3 h)
  else
  qD_isName_53 k17 x0 x2 x3 h
def qD_isName_17_b (k17 : Int32 → Int32 → Int32 → XH → XR) (x0 : Int32) (x1 : Int32) (x2 : Int32) (h : XH) : XR :=
  if x2 < (6 : Int32) then
  (bI (qD_letterOf x0 x2 h) (fun v2 h1 =>
    if (26 : Int32) < v2 then
      (rI (0 : Int32) h1)
      else
      if x1 = (0 : Int32) then
        (qD_isName_43 k17 x0 x2 v2 h1)
        else
        if v2 = (0 : Int32) then
          (qD_isName_43 k17 x0 x2 v2 h1)
          else
          rI (0 : Int32) h1))
  else
  rI (1 : Int32) h
def qD_isName_17 : Nat → Int32 → Int32 → Int32 → XH → XR
  | 0 => fun _ _ _ _ => none
  | n + 1 => qD_isName_17_b (qD_isName_17 n)
def qD_isName (x0 : Int32) (h : XH) : XR :=
  if (0 : Int32) < x0 then
  (if (jshr x0 (30 : Int32)) = (0 : Int32) then
    (qD_isName_17 LF x0 (0 : Int32) (0 : Int32) h)
    else
    rI (0 : Int32) h)
  else
  rI (0 : Int32) h
-- LineDiagram.named(I)I
def qD_named (a0 : Nat) (x1 : Int32) (h : XH) : XR :=
  bI (qD_isName x1 h) (fun v2 h1 =>
  if v2 = (0 : Int32) then
    (rI (-1 : Int32) h1)
    else
    gR h1 a0 8 3 (fun a_3 =>
      isO h1 a_3 5 (bI (qP_lineNamed a_3 x1 h1) (fun v5 h4 =>
        if v5 < (0 : Int32) then
          (rI (-2 : Int32) h4)
          else
          rI v5 h4))))
-- LineDiagramModel.isName(I)Z
def qM_isName_72 (k25 : Int32 → Int32 → Int32 → Int32 → XH → XR) (x0 : Int32) (x2 : Int32) (x3 : Int32) (h : XH) : XR :=
  k25 x0 (1 : Int32) x2 (x3 + (-5 : Int32)) h
def qM_isName_62 (k25 : Int32 → Int32 → Int32 → Int32 → XH → XR) (x0 : Int32) (x1 : Int32) (x3 : Int32) (x4 : Int32) (s0 : Int32) (h : XH) : XR :=
  if x1 = (0 : Int32) then
  (if x4 = (0 : Int32) then
    (qM_isName_72 k25 x0 s0 x3 h)
    else
    k25 x0 (0 : Int32) s0 (x3 + (-5 : Int32)) h)
  else
  qM_isName_72 k25 x0 s0 x3 h
def qM_isName_57 (k25 : Int32 → Int32 → Int32 → Int32 → XH → XR) (x0 : Int32) (x1 : Int32) (x3 : Int32) (x4 : Int32) (h : XH) : XR :=
  qM_isName_62 k25 x0 x1 x3 x4 (1 : Int32) h
def qM_isName_61 (k25 : Int32 → Int32 → Int32 → Int32 → XH → XR) (x0 : Int32) (x1 : Int32) (x3 : Int32) (x4 : Int32) (h : XH) : XR :=
  qM_isName_62 k25 x0 x1 x3 x4 (0 : Int32) h
def qM_isName_25_b (k25 : Int32 → Int32 → Int32 → Int32 → XH → XR) (x0 : Int32) (x1 : Int32) (x2 : Int32) (x3 : Int32) (h : XH) : XR :=
  if x3 < (0 : Int32) then
  (rZ x2 h)
  else
  if x2 = (0 : Int32) then
    (qM_isName_61 k25 x0 x1 x3 ((jshr x0 x3) &&& (31 : Int32)) h)
    else
    if ((jshr x0 x3) &&& (31 : Int32)) < (27 : Int32) then
      (if x1 = (0 : Int32) then
        (qM_isName_57 k25 x0 x1 x3 ((jshr x0 x3) &&& (31 : Int32)) h)
        else
        if (0 : Int32) < ((jshr x0 x3) &&& (31 : Int32)) then
          (qM_isName_61 k25 x0 x1 x3 ((jshr x0 x3) &&& (31 : Int32)) h)
          else
          qM_isName_57 k25 x0 x1 x3 ((jshr x0 x3) &&& (31 : Int32)) h)
      else
      qM_isName_61 k25 x0 x1 x3 ((jshr x0 x3) &&& (31 : Int32)) h
def qM_isName_25 : Nat → Int32 → Int32 → Int32 → Int32 → XH → XR
  | 0 => fun _ _ _ _ _ => none
  | n + 1 => qM_isName_25_b (qM_isName_25 n)
def qM_isName (x0 : Int32) (h : XH) : XR :=
  if (0 : Int32) < (jshr x0 (25 : Int32)) then
  (if (jshr x0 (30 : Int32)) = (0 : Int32) then
    (qM_isName_25 LF x0 (0 : Int32) (1 : Int32) (25 : Int32) h)
    else
    qM_isName_25 LF x0 (0 : Int32) (0 : Int32) (25 : Int32) h)
  else
  qM_isName_25 LF x0 (0 : Int32) (0 : Int32) (25 : Int32) h
-- LineDiagramModel.named(I)I
def qM_named_11_b (k11 : Nat → Int32 → Int32 → XH → XR) (a0 : Nat) (x1 : Int32) (x2 : Int32) (h : XH) : XR :=
  gI h a0 9 6 (fun v1 =>
  if x2 < v1 then
    (gR h a0 9 7 (fun a_2 =>
      rdI h a_2 x2 (fun v3 =>
        if v3 = x1 then
          (rI x2 h)
          else
          k11 a0 x1 (x2 + (1 : Int32)) h)))
    else
    rI (-2 : Int32) h)
def qM_named_11 : Nat → Nat → Int32 → Int32 → XH → XR
  | 0 => fun _ _ _ _ => none
  | n + 1 => qM_named_11_b (qM_named_11 n)
def qM_named (a0 : Nat) (x1 : Int32) (h : XH) : XR :=
  bI (qM_isName x1 h) (fun v2 h1 =>
  if v2 = (0 : Int32) then
    (rI (-1 : Int32) h1)
    else
    qM_named_11 LF a0 x1 (0 : Int32) h1)
-- LineDiagram.pictureLength()I
def qD_pictureLength (a0 : Nat) (h : XH) : XR :=
  gR h a0 8 3 (fun a_1 =>
  gI h a_1 5 0 (fun v2 =>
    gR h a0 8 3 (fun a_3 =>
      gI h a_3 5 1 (fun v4 =>
        rI ((v2 + (1 : Int32)) * v4) h))))
-- LineDiagramModel.says(I)V
def qM_says_20 (a0 : Nat) (s0 : Int32) (s1 : Nat) (h : XH) : XR :=
  pV h s1 9 43 (.int s0) (fun h1 =>
  gI h1 a0 9 41 (fun v2 =>
    pV h1 a0 9 41 (.int (v2 + (1 : Int32))) (fun h3 =>
      rV h3)))
def qM_says (a0 : Nat) (x1 : Int32) (h : XH) : XR :=
  gI h a0 9 41 (fun v1 =>
  gI h a0 9 42 (fun v2 =>
    if v1 = v2 then
      (qM_says_20 a0 x1 a0 h)
      else
      gI h a0 9 43 (fun v3 =>
        qM_says_20 a0 v3 a0 h)))
-- LineDiagramModel.startsText(I)V
def qM_startsText (a0 : Nat) (x1 : Int32) (h : XH) : XR :=
  pV h a0 9 41 (.int (0 : Int32)) (fun h1 =>
  pV h1 a0 9 42 (.int x1) (fun h2 =>
    pV h2 a0 9 43 (.int (-2 : Int32)) (fun h3 =>
      rV h3)))
-- LineDiagramModel.firstLineOn(I)I
def qM_firstLineOn_2_b (k2 : Nat → Int32 → Int32 → XH → XR) (a0 : Nat) (x1 : Int32) (x2 : Int32) (h : XH) : XR :=
  gR h a0 9 16 (fun a_1 =>
  rdI h a_1 x1 (fun v2 =>
    bI (qM_has v2 x2 h) (fun v4 h3 =>
      if v4 = (0 : Int32) then
        (k2 a0 x1 (x2 + (1 : Int32)) h3)
        else
        rI x2 h3)))
def qM_firstLineOn_2 : Nat → Nat → Int32 → Int32 → XH → XR
  | 0 => fun _ _ _ _ => none
  | n + 1 => qM_firstLineOn_2_b (qM_firstLineOn_2 n)
def qM_firstLineOn (a0 : Nat) (x1 : Int32) (h : XH) : XR :=
  qM_firstLineOn_2 LF a0 x1 (0 : Int32) h
-- LineDiagramModel.signOf(I)I
def qM_signOf (a0 : Nat) (x1 : Int32) (h : XH) : XR :=
  isO h a0 9 (bI (qM_sortOf a0 x1 h) (fun v2 h1 =>
  if v2 = (2 : Int32) then
    (isO h1 a0 9 (bI (qM_isCrossing a0 x1 h1) (fun v4 h3 =>
      if v4 = (0 : Int32) then
        (isO h3 a0 9 (bI (qM_firstLineOn a0 x1 h3) (fun v6 h5 =>
          rI ((48 : Int32) + v6) h5)))
        else
        rI (43 : Int32) h3)))
    else
    if v2 = (3 : Int32) then
      (rI (111 : Int32) h1)
      else
      if v2 = (1 : Int32) then
        (rI (61 : Int32) h1)
        else
        rI (46 : Int32) h1))
-- LineDiagramModel.saysPicture(I)V
def qM_saysPicture_48 (k11 : Nat → Int32 → XH → XR) (a0 : Nat) (x2 : Int32) (h : XH) : XR :=
  isO h a0 9 (bV (qM_says a0 (10 : Int32) h) (fun h1 =>
  k11 a0 (x2 + (1 : Int32)) h1))
def qM_saysPicture_21_b (k11 : Nat → Int32 → XH → XR) (k21 : Nat → Int32 → Int32 → XH → XR) (a0 : Nat) (x2 : Int32) (x3 : Int32) (h : XH) : XR :=
  gI h a0 9 3 (fun v1 =>
  if x3 < v1 then
    (bI (qM_cell x3 x2 h) (fun v3 h2 =>
      isO h2 a0 9 (bI (qM_signOf a0 v3 h2) (fun v5 h4 =>
        isO h4 a0 9 (bV (qM_says a0 v5 h4) (fun h6 =>
          k21 a0 x2 (x3 + (1 : Int32)) h6))))))
    else
    qM_saysPicture_48 k11 a0 x2 h)
def qM_saysPicture_21 (k11 : Nat → Int32 → XH → XR) : Nat → Nat → Int32 → Int32 → XH → XR
  | 0 => fun _ _ _ _ => none
  | n + 1 => qM_saysPicture_21_b k11 (qM_saysPicture_21 k11 n)
def qM_saysPicture_11_b (k11 : Nat → Int32 → XH → XR) (a0 : Nat) (x2 : Int32) (h : XH) : XR :=
  gI h a0 9 4 (fun v1 =>
  if x2 < v1 then
    (qM_saysPicture_21 k11 LF a0 x2 (0 : Int32) h)
    else
    rV h)
def qM_saysPicture_11 : Nat → Nat → Int32 → XH → XR
  | 0 => fun _ _ _ => none
  | n + 1 => qM_saysPicture_11_b (qM_saysPicture_11 n)
def qM_saysPicture (a0 : Nat) (x1 : Int32) (h : XH) : XR :=
  isO h a0 9 (bV (qM_startsText a0 x1 h) (fun h1 =>
  isO h1 a0 9 (bV (qM_lays a0 h1) (fun h2 =>
    qM_saysPicture_11 LF a0 (0 : Int32) h2))))
-- LineDiagramModel.pictureLength()I
def qM_pictureLength (a0 : Nat) (h : XH) : XR :=
  isO h a0 9 (bV (qM_saysPicture a0 (-1 : Int32) h) (fun h1 =>
  gI h1 a0 9 41 (fun v2 =>
    rI v2 h1)))
-- LineDiagram$Board.firstLineOn(I)I
def qB_firstLineOn_2_b (k2 : Nat → Int32 → Int32 → XH → XR) (a0 : Nat) (x1 : Int32) (x2 : Int32) (h : XH) : XR :=
  if x2 < (8 : Int32) then
  (gR h a0 0 2 (fun a_1 =>
    rdI h a_1 x1 (fun v2 =>
      if ((jshr v2 x2) &&& (1 : Int32)) = (0 : Int32) then
        (k2 a0 x1 (x2 + (1 : Int32)) h)
        else
        rI x2 h)))
  else
  rI x2 h
def qB_firstLineOn_2 : Nat → Nat → Int32 → Int32 → XH → XR
  | 0 => fun _ _ _ _ => none
  | n + 1 => qB_firstLineOn_2_b (qB_firstLineOn_2 n)
def qB_firstLineOn (a0 : Nat) (x1 : Int32) (h : XH) : XR :=
  qB_firstLineOn_2 LF a0 x1 (0 : Int32) h
