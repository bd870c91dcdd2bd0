-- LineDiagramModel.empties()V
def qM_empties_27 (k2 : Nat → Int32 → XH → XR) (a0 : Nat) (x1 : Int32) (s0 : Int32) (s1 : Int32) (s2 : Nat) (h : XH) : XR :=
  wrI h s2 s1 s0 (fun h1 =>
  k2 a0 (x1 + (1 : Int32)) h1)
def qM_empties_34 (a0 : Nat) (h : XH) : XR :=
  gR h a0 9 12 (fun a_1 =>
  wrB h a_1 (0 : Int32) (0 : Int32) (fun h2 =>
    gR h2 a0 9 12 (fun a_3 =>
      wrB h2 a_3 (1 : Int32) (0 : Int32) (fun h4 =>
        pV h4 a0 9 13 (.int (0 : Int32)) (fun h5 =>
          rV h5)))))
def qM_empties_2_b (k2 : Nat → Int32 → XH → XR) (a0 : Nat) (x1 : Int32) (h : XH) : XR :=
  if x1 < (1784 : Int32) then
  (gR h a0 9 8 (fun a_1 =>
    if x1 < (184 : Int32) then
      (qM_empties_27 k2 a0 x1 (0 : Int32) x1 a_1 h)
      else
      qM_empties_27 k2 a0 x1 (-2 : Int32) x1 a_1 h))
  else
  qM_empties_34 a0 h
def qM_empties_2 : Nat → Nat → Int32 → XH → XR
  | 0 => fun _ _ _ => none
  | n + 1 => qM_empties_2_b (qM_empties_2 n)
def qM_empties (a0 : Nat) (h : XH) : XR :=
  qM_empties_2 LF a0 (0 : Int32) h
-- LineDiagramModel.isByte(II)Z
def qM_isByte (a0 : Nat) (x1 : Int32) (x2 : Int32) (h : XH) : XR :=
  gI h a0 9 23 (fun v1 =>
  gI h a0 9 1 (fun v2 =>
    if v1 < v2 then
      (gR h a0 9 0 (fun a_3 =>
        gI h a0 9 23 (fun v4 =>
          rdB h a_3 v4 (fun v5 =>
            if v5 < x1 then
              (rI (0 : Int32) h)
              else
              gR h a0 9 0 (fun a_6 =>
                gI h a0 9 23 (fun v7 =>
                  rdB h a_6 v7 (fun v8 =>
                    if x2 < v8 then
                      (rI (0 : Int32) h)
                      else
                      rI (1 : Int32) h)))))))
      else
      rI (0 : Int32) h))
-- LineDiagramModel.isKey(J)Z
def qM_isKey (l0 : Int64) (h : XH) : XR :=
  if (lg_cmp l0 (2590276 : Int64)) = (0 : Int32) then
  (rI (1 : Int32) h)
  else
  if (lg_cmp l0 (677454 : Int64)) = (0 : Int32) then
    (rI (1 : Int32) h)
    else
    if (lg_cmp l0 (402885 : Int64)) = (0 : Int32) then
      (rI (1 : Int32) h)
      else
      if (lg_cmp l0 (632645 : Int64)) = (0 : Int32) then
        (rI (1 : Int32) h)
        else
        if (lg_cmp l0 (20594195 : Int64)) = (0 : Int32) then
          (rI (1 : Int32) h)
          else
          if (lg_cmp l0 (52 : Int64)) = (0 : Int32) then
            (rI (1 : Int32) h)
            else
            rI (0 : Int32) h
-- LineDiagramModel.takesLetters()V
def qM_takesLetters_93 (k10 : Nat → XH → XR) (a0 : Nat) (s0 : Int64) (s1 : Nat) (h : XH) : XR :=
  pV h s1 9 26 (.long s0) (fun h1 =>
  gI h1 a0 9 23 (fun v2 =>
    pV h1 a0 9 23 (.int (v2 + (1 : Int32))) (fun h3 =>
      k10 a0 h3)))
def qM_takesLetters_67 (k10 : Nat → XH → XR) (a0 : Nat) (x1 : Int32) (x2 : Int32) (s0 : Int32) (s1 : Int32) (s2 : Nat) (h : XH) : XR :=
  pV h s2 9 28 (.int (s1 ||| s0)) (fun h1 =>
  if x1 < (8 : Int32) then
    (gL h1 a0 9 26 (fun l_2 =>
      qM_takesLetters_93 k10 a0 (((32 : Int64) * l_2) + (x2.toInt64)) a0 h1))
    else
    qM_takesLetters_93 k10 a0 (0 : Int64) a0 h1)
def qM_takesLetters_157 (s0 : Int32) (s1 : Nat) (h : XH) : XR :=
  pV h s1 9 25 (.int s0) (fun h1 =>
  rV h1)
def qM_takesLetters_138 (a0 : Nat) (s0 : Nat) (h : XH) : XR :=
  gI h a0 9 23 (fun v1 =>
  gI h a0 9 24 (fun v2 =>
    if (v1 - v2) < (7 : Int32) then
      (qM_takesLetters_157 (1 : Int32) s0 h)
      else
      qM_takesLetters_157 (5 : Int32) s0 h))
def qM_takesLetters_109 (a0 : Nat) (h : XH) : XR :=
  gI h a0 9 23 (fun v1 =>
  gI h a0 9 24 (fun v2 =>
    if (v1 - v2) < (9 : Int32) then
      (gL h a0 9 26 (fun l_3 =>
        bI (qM_isKey l_3 h) (fun v5 h4 =>
          if v5 = (0 : Int32) then
            (qM_takesLetters_138 a0 a0 h4)
            else
            qM_takesLetters_157 (2 : Int32) a0 h4)))
      else
      qM_takesLetters_138 a0 a0 h))
def qM_takesLetters_10_b (k10 : Nat → XH → XR) (a0 : Nat) (h : XH) : XR :=
  isO h a0 9 (bI (qM_isByte a0 (97 : Int32) (122 : Int32) h) (fun v2 h1 =>
  if v2 = (0 : Int32) then
    (qM_takesLetters_109 a0 h1)
    else
    gI h1 a0 9 23 (fun v3 =>
      gI h1 a0 9 24 (fun v4 =>
        gR h1 a0 9 0 (fun a_5 =>
          gI h1 a0 9 23 (fun v6 =>
            rdB h1 a_5 v6 (fun v7 =>
              gI h1 a0 9 28 (fun v8 =>
                if (v3 - v4) < (6 : Int32) then
                  (qM_takesLetters_67 k10 a0 (v3 - v4) (v7 - (96 : Int32)) (jshl (v7 - (96 : Int32)) ((25 : Int32) - ((5 : Int32) * (v3 - v4)))) v8 a0 h1)
                  else
                  qM_takesLetters_67 k10 a0 (v3 - v4) (v7 - (96 : Int32)) (0 : Int32) v8 a0 h1))))))))
def qM_takesLetters_10 : Nat → Nat → XH → XR
  | 0 => fun _ _ => none
  | n + 1 => qM_takesLetters_10_b (qM_takesLetters_10 n)
def qM_takesLetters (a0 : Nat) (h : XH) : XR :=
  pV h a0 9 26 (.long (0 : Int64)) (fun h1 =>
  pV h1 a0 9 28 (.int (0 : Int32)) (fun h2 =>
    qM_takesLetters_10 LF a0 h2))
-- LineDiagramModel.takesDigits()V
def qM_takesDigits_57 (k5 : Nat → XH → XR) (a0 : Nat) (s0 : Int32) (s1 : Nat) (h : XH) : XR :=
  pV h s1 9 27 (.int s0) (fun h1 =>
  gI h1 a0 9 23 (fun v2 =>
    pV h1 a0 9 23 (.int (v2 + (1 : Int32))) (fun h3 =>
      k5 a0 h3)))
def qM_takesDigits_92 (s0 : Int32) (s1 : Nat) (h : XH) : XR :=
  pV h s1 9 25 (.int s0) (fun h1 =>
  rV h1)
def qM_takesDigits_73 (a0 : Nat) (h : XH) : XR :=
  gI h a0 9 23 (fun v1 =>
  gI h a0 9 24 (fun v2 =>
    if (v1 - v2) < (3 : Int32) then
      (qM_takesDigits_92 (3 : Int32) a0 h)
      else
      qM_takesDigits_92 (5 : Int32) a0 h))
def qM_takesDigits_5_b (k5 : Nat → XH → XR) (a0 : Nat) (h : XH) : XR :=
  isO h a0 9 (bI (qM_isByte a0 (48 : Int32) (57 : Int32) h) (fun v2 h1 =>
  if v2 = (0 : Int32) then
    (qM_takesDigits_73 a0 h1)
    else
    gI h1 a0 9 23 (fun v3 =>
      gI h1 a0 9 24 (fun v4 =>
        if (v3 - v4) < (2 : Int32) then
          (gI h1 a0 9 27 (fun v6 =>
            gR h1 a0 9 0 (fun a_7 =>
              gI h1 a0 9 23 (fun v8 =>
                rdB h1 a_7 v8 (fun v9 =>
                  qM_takesDigits_57 k5 a0 ((((10 : Int32) * v6) + v9) - (48 : Int32)) a0 h1)))))
          else
          gI h1 a0 9 27 (fun v5 =>
            qM_takesDigits_57 k5 a0 v5 a0 h1)))))
def qM_takesDigits_5 : Nat → Nat → XH → XR
  | 0 => fun _ _ => none
  | n + 1 => qM_takesDigits_5_b (qM_takesDigits_5 n)
def qM_takesDigits (a0 : Nat) (h : XH) : XR :=
  pV h a0 9 27 (.int (0 : Int32)) (fun h1 =>
  qM_takesDigits_5 LF a0 h1)
-- LineDiagramModel.goesOn()V
def qM_goesOn_39 (k0 : Nat → XH → XR) (a0 : Nat) (h : XH) : XR :=
  gI h a0 9 23 (fun v1 =>
  pV h a0 9 23 (.int (v1 + (1 : Int32))) (fun h2 =>
    k0 a0 h2))
def qM_goesOn_135 (a0 : Nat) (s0 : Int32) (s1 : Nat) (h : XH) : XR :=
  pV h s1 9 25 (.int s0) (fun h1 =>
  gI h1 a0 9 23 (fun v2 =>
    pV h1 a0 9 23 (.int (v2 + (1 : Int32))) (fun h3 =>
      rV h3)))
def qM_goesOn_52 (a0 : Nat) (h : XH) : XR :=
  gI h a0 9 23 (fun v1 =>
  pV h a0 9 24 (.int v1) (fun h2 =>
    gI h2 a0 9 23 (fun v3 =>
      gI h2 a0 9 1 (fun v4 =>
        if v3 = v4 then
          (pV h2 a0 9 25 (.int (0 : Int32)) (fun h14 =>
            rV h14))
          else
          isO h2 a0 9 (bI (qM_isByte a0 (97 : Int32) (122 : Int32) h2) (fun v6 h5 =>
            if v6 = (0 : Int32) then
              (isO h5 a0 9 (bI (qM_isByte a0 (48 : Int32) (57 : Int32) h5) (fun v8 h7 =>
                if v8 = (0 : Int32) then
                  (gR h7 a0 9 0 (fun a_9 =>
                    gI h7 a0 9 23 (fun v10 =>
                      rdB h7 a_9 v10 (fun v11 =>
                        if v11 = (59 : Int32) then
                        (qM_goesOn_135 a0 (4 : Int32) a0 h7)
                        else
                        qM_goesOn_135 a0 (5 : Int32) a0 h7))))
                  else
                  isO h7 a0 9 (bV (qM_takesDigits a0 h7) (fun h12 =>
                    rV h12)))))
              else
              isO h5 a0 9 (bV (qM_takesLetters a0 h5) (fun h13 =>
                rV h13))))))))
def qM_goesOn_0_b (k0 : Nat → XH → XR) (a0 : Nat) (h : XH) : XR :=
  gI h a0 9 23 (fun v1 =>
  gI h a0 9 1 (fun v2 =>
    if v1 < v2 then
      (gR h a0 9 0 (fun a_3 =>
        gI h a0 9 23 (fun v4 =>
          rdB h a_3 v4 (fun v5 =>
            if v5 = (32 : Int32) then
              (qM_goesOn_39 k0 a0 h)
              else
              gR h a0 9 0 (fun a_6 =>
                gI h a0 9 23 (fun v7 =>
                  rdB h a_6 v7 (fun v8 =>
                    if v8 = (10 : Int32) then
                      (qM_goesOn_39 k0 a0 h)
                      else
                      qM_goesOn_52 a0 h)))))))
      else
      qM_goesOn_52 a0 h))
def qM_goesOn_0 : Nat → Nat → XH → XR
  | 0 => fun _ _ => none
  | n + 1 => qM_goesOn_0_b (qM_goesOn_0 n)
def qM_goesOn (a0 : Nat) (h : XH) : XR := qM_goesOn_0 LF a0 h
-- LineDiagramModel.takes(Z)V
def qM_takes_24 (a0 : Nat) (h : XH) : XR :=
  gI h a0 9 29 (fun v1 =>
  if v1 = (0 : Int32) then
    (rV h)
    else
    isO h a0 9 (bV (qM_goesOn a0 h) (fun h2 =>
      rV h2)))
def qM_takes (a0 : Nat) (x1 : Int32) (h : XH) : XR :=
  gI h a0 9 29 (fun v1 =>
  if v1 = (0 : Int32) then
    (qM_takes_24 a0 h)
    else
    if x1 = (0 : Int32) then
      (pV h a0 9 29 (.int (0 : Int32)) (fun h2 =>
        gI h2 a0 9 24 (fun v3 =>
          pV h2 a0 9 2 (.int v3) (fun h4 =>
            qM_takes_24 a0 h4))))
      else
      qM_takes_24 a0 h)
-- LineDiagramModel.isInt(II)Z
def qM_isInt (a0 : Nat) (x1 : Int32) (x2 : Int32) (h : XH) : XR :=
  gI h a0 9 25 (fun v1 =>
  if v1 = (3 : Int32) then
    (gI h a0 9 27 (fun v2 =>
      bI (qM_in (v2.toInt64) (x1.toInt64) (x2.toInt64) h) (fun v4 h3 =>
        if v4 = (0 : Int32) then
          (rI (0 : Int32) h3)
          else
          rI (1 : Int32) h3)))
    else
    rI (0 : Int32) h)
-- LineDiagramModel.numberIn(II)I
def qM_numberIn (a0 : Nat) (x1 : Int32) (x2 : Int32) (h : XH) : XR :=
  gI h a0 9 27 (fun v1 =>
  isO h a0 9 (bI (qM_isInt a0 x1 x2 h) (fun v3 h2 =>
    isO h2 a0 9 (bV (qM_takes a0 v3 h2) (fun h4 =>
      rI v1 h4)))))
-- LineDiagramModel.isHere(J)Z
def qM_isHere (a0 : Nat) (l1 : Int64) (h : XH) : XR :=
  gI h a0 9 29 (fun v1 =>
  if v1 = (0 : Int32) then
    (rI (0 : Int32) h)
    else
    gI h a0 9 25 (fun v2 =>
      if v2 = (2 : Int32) then
        (gL h a0 9 26 (fun l_3 =>
          if (lg_cmp l_3 l1) = (0 : Int32) then
            (rI (1 : Int32) h)
            else
            rI (0 : Int32) h))
        else
        rI (0 : Int32) h))
-- LineDiagramModel.numberOf(JII)I
def qM_numberOf (a0 : Nat) (l1 : Int64) (x3 : Int32) (x4 : Int32) (h : XH) : XR :=
  isO h a0 9 (bI (qM_isHere a0 l1 h) (fun v2 h1 =>
  isO h1 a0 9 (bV (qM_takes a0 v2 h1) (fun h3 =>
    isO h3 a0 9 (bI (qM_numberIn a0 x3 x4 h3) (fun v5 h4 =>
      rI v5 h4))))))
-- LineDiagramModel.newAt(I)I
def qM_newAt (a0 : Nat) (x1 : Int32) (h : XH) : XR :=
  gI h a0 9 33 (fun v1 =>
  rI (((23 : Int32) * v1) + x1) h)
