-- LineDiagramModel.crossing(I)I
def qM_crossing_33 (x3 : Int32) (h : XH) : XR :=
  bI (qM_told x3 h) (fun v2 h1 =>
  rI v2 h1)
def qM_crossing_14_b (k14 : Nat → Int32 → Int32 → XH → XR) (a0 : Nat) (x2 : Int32) (x3 : Int32) (h : XH) : XR :=
  if x3 < (1600 : Int32) then
  (isO h a0 9 (bI (qM_isCrossing a0 x3 h) (fun v2 h1 =>
    if v2 = (0 : Int32) then
      (k14 a0 x2 (x3 + (1 : Int32)) h1)
      else
      if x2 = (0 : Int32) then
        (qM_crossing_33 x3 h1)
        else
        k14 a0 (x2 + (-1 : Int32)) (x3 + (1 : Int32)) h1)))
  else
  rI (-2 : Int32) h
def qM_crossing_14 : Nat → Nat → Int32 → Int32 → XH → XR
  | 0 => fun _ _ _ _ => none
  | n + 1 => qM_crossing_14_b (qM_crossing_14 n)
def qM_crossing (a0 : Nat) (x1 : Int32) (h : XH) : XR :=
  if x1 < (0 : Int32) then
  (rI (-1 : Int32) h)
  else
  isO h a0 9 (bV (qM_lays a0 h) (fun h1 =>
    qM_crossing_14 LF a0 x1 (0 : Int32) h1))
-- LineDiagram$Travel.reach(LLineDiagram$Plan;LLineDiagram$Board;II)V
def qTv_reach_15_b (k3 : Nat → Nat → Nat → Int32 → Int32 → Int32 → XH → XR) (k15 : Nat → Nat → Nat → Int32 → Int32 → Int32 → Int32 → XH → XR) (a0 : Nat) (a1 : Nat) (a2 : Nat) (x3 : Int32) (x4 : Int32) (x5 : Int32) (x6 : Int32) (h : XH) : XR :=
  gR h a1 5 4 (fun a_1 =>
  rdR h a_1 x5 (fun a_2 =>
    gI h a_2 3 2 (fun v3 =>
      if x6 < v3 then
        (isO h a2 0 (bI (qB_stationCell a2 x5 x6 h) (fun v5 h4 =>
          if v5 = x3 then
            (gR h4 a0 7 0 (fun a_6 =>
              wrI h4 a_6 ((x5 * (20 : Int32)) + x6) x4 (fun h7 =>
                k15 a0 a1 a2 x3 x4 x5 (x6 + (1 : Int32)) h7)))
            else
            k15 a0 a1 a2 x3 x4 x5 (x6 + (1 : Int32)) h4)))
        else
        k3 a0 a1 a2 x3 x4 (x5 + (1 : Int32)) h)))
def qTv_reach_15 (k3 : Nat → Nat → Nat → Int32 → Int32 → Int32 → XH → XR) : Nat → Nat → Nat → Nat → Int32 → Int32 → Int32 → Int32 → XH → XR
  | 0 => fun _ _ _ _ _ _ _ _ => none
  | n + 1 => qTv_reach_15_b k3 (qTv_reach_15 k3 n)
def qTv_reach_3_b (k3 : Nat → Nat → Nat → Int32 → Int32 → Int32 → XH → XR) (a0 : Nat) (a1 : Nat) (a2 : Nat) (x3 : Int32) (x4 : Int32) (x5 : Int32) (h : XH) : XR :=
  gI h a1 5 3 (fun v1 =>
  if x5 < v1 then
    (qTv_reach_15 k3 LF a0 a1 a2 x3 x4 x5 (0 : Int32) h)
    else
    rV h)
def qTv_reach_3 : Nat → Nat → Nat → Nat → Int32 → Int32 → Int32 → XH → XR
  | 0 => fun _ _ _ _ _ _ _ => none
  | n + 1 => qTv_reach_3_b (qTv_reach_3 n)
def qTv_reach (a0 : Nat) (a1 : Nat) (a2 : Nat) (x3 : Int32) (x4 : Int32) (h : XH) : XR :=
  qTv_reach_3 LF a0 a1 a2 x3 x4 (0 : Int32) h
-- LineDiagram$Travel.reachStation(LLineDiagram$Plan;LLineDiagram$Board;III)Z
def qTv_reachStation (a0 : Nat) (a1 : Nat) (a2 : Nat) (x3 : Int32) (x4 : Int32) (x5 : Int32) (h : XH) : XR :=
  gR h a0 7 0 (fun a_1 =>
  rdI h a_1 ((x3 * (20 : Int32)) + x4) (fun v2 =>
    if v2 < (0 : Int32) then
      (isO h a2 0 (bI (qB_stationCell a2 x3 x4 h) (fun v4 h3 =>
        isO h3 a0 7 (bV (qTv_reach a0 a1 a2 v4 x5 h3) (fun h5 =>
          rI (1 : Int32) h5)))))
      else
      rI (0 : Int32) h))
-- LineDiagram$Travel.rideOn(LLineDiagram$Plan;LLineDiagram$Board;I)Z
def qTv_rideOn_133 (k6 : Nat → Nat → Nat → Int32 → Int32 → Int32 → XH → XR) (k30 : Nat → Nat → Nat → Int32 → Int32 → Int32 → Int32 → Int32 → XH → XR) (a0 : Nat) (a1 : Nat) (a2 : Nat) (x3 : Int32) (x5 : Int32) (x6 : Int32) (x7 : Int32) (h : XH) : XR :=
  k30 a0 a1 a2 x3 (1 : Int32) x5 x6 (x7 + (1 : Int32)) h
def qTv_rideOn_116 (k6 : Nat → Nat → Nat → Int32 → Int32 → Int32 → XH → XR) (k30 : Nat → Nat → Nat → Int32 → Int32 → Int32 → Int32 → Int32 → XH → XR) (a0 : Nat) (a1 : Nat) (a2 : Nat) (x3 : Int32) (x4 : Int32) (x5 : Int32) (x6 : Int32) (x7 : Int32) (x8 : Int32) (s0 : Int32) (h : XH) : XR :=
  if x4 = (0 : Int32) then
  (if x8 = (0 : Int32) then
    (if s0 = (0 : Int32) then
      (k30 a0 a1 a2 x3 (0 : Int32) x5 x6 (x7 + (1 : Int32)) h)
      else
      qTv_rideOn_133 k6 k30 a0 a1 a2 x3 x5 x6 x7 h)
    else
    qTv_rideOn_133 k6 k30 a0 a1 a2 x3 x5 x6 x7 h)
  else
  qTv_rideOn_133 k6 k30 a0 a1 a2 x3 x5 x6 x7 h
def qTv_rideOn_115 (k6 : Nat → Nat → Nat → Int32 → Int32 → Int32 → XH → XR) (k30 : Nat → Nat → Nat → Int32 → Int32 → Int32 → Int32 → Int32 → XH → XR) (a0 : Nat) (a1 : Nat) (a2 : Nat) (x3 : Int32) (x4 : Int32) (x5 : Int32) (x6 : Int32) (x7 : Int32) (x8 : Int32) (h : XH) : XR :=
  qTv_rideOn_116 k6 k30 a0 a1 a2 x3 x4 x5 x6 x7 x8 (0 : Int32) h
def qTv_rideOn_82 (k6 : Nat → Nat → Nat → Int32 → Int32 → Int32 → XH → XR) (k30 : Nat → Nat → Nat → Int32 → Int32 → Int32 → Int32 → Int32 → XH → XR) (a0 : Nat) (a1 : Nat) (a2 : Nat) (x3 : Int32) (x4 : Int32) (x5 : Int32) (x6 : Int32) (x7 : Int32) (s0 : Int32) (h : XH) : XR :=
  if (x7 + (1 : Int32)) < x6 then
  (isO h a0 7 (bI (qTv_reachStation a0 a1 a2 x5 (x7 + (1 : Int32)) (x3 + (1 : Int32)) h) (fun v2 h1 =>
    if v2 = (0 : Int32) then
      (qTv_rideOn_115 k6 k30 a0 a1 a2 x3 x4 x5 x6 x7 s0 h1)
      else
      qTv_rideOn_116 k6 k30 a0 a1 a2 x3 x4 x5 x6 x7 s0 (1 : Int32) h1)))
  else
  qTv_rideOn_115 k6 k30 a0 a1 a2 x3 x4 x5 x6 x7 s0 h
def qTv_rideOn_81 (k6 : Nat → Nat → Nat → Int32 → Int32 → Int32 → XH → XR) (k30 : Nat → Nat → Nat → Int32 → Int32 → Int32 → Int32 → Int32 → XH → XR) (a0 : Nat) (a1 : Nat) (a2 : Nat) (x3 : Int32) (x4 : Int32) (x5 : Int32) (x6 : Int32) (x7 : Int32) (h : XH) : XR :=
  qTv_rideOn_82 k6 k30 a0 a1 a2 x3 x4 x5 x6 x7 (0 : Int32) h
def qTv_rideOn_30_b (k6 : Nat → Nat → Nat → Int32 → Int32 → Int32 → XH → XR) (k30 : Nat → Nat → Nat → Int32 → Int32 → Int32 → Int32 → Int32 → XH → XR) (a0 : Nat) (a1 : Nat) (a2 : Nat) (x3 : Int32) (x4 : Int32) (x5 : Int32) (x6 : Int32) (x7 : Int32) (h : XH) : XR :=
  if x7 < x6 then
  (gR h a0 7 0 (fun a_1 =>
    rdI h a_1 ((x5 * (20 : Int32)) + x7) (fun v2 =>
      if v2 = x3 then
        (if (0 : Int32) < x7 then
          (isO h a0 7 (bI (qTv_reachStation a0 a1 a2 x5 (x7 - (1 : Int32)) (x3 + (1 : Int32)) h) (fun v4 h3 =>
            if v4 = (0 : Int32) then
              (qTv_rideOn_81 k6 k30 a0 a1 a2 x3 x4 x5 x6 x7 h3)
              else
              qTv_rideOn_82 k6 k30 a0 a1 a2 x3 x4 x5 x6 x7 (1 : Int32) h3)))
          else
          qTv_rideOn_81 k6 k30 a0 a1 a2 x3 x4 x5 x6 x7 h)
        else
        k30 a0 a1 a2 x3 x4 x5 x6 (x7 + (1 : Int32)) h)))
  else
  k6 a0 a1 a2 x3 x4 (x5 + (1 : Int32)) h
def qTv_rideOn_30 (k6 : Nat → Nat → Nat → Int32 → Int32 → Int32 → XH → XR) : Nat → Nat → Nat → Nat → Int32 → Int32 → Int32 → Int32 → Int32 → XH → XR
  | 0 => fun _ _ _ _ _ _ _ _ _ => none
  | n + 1 => qTv_rideOn_30_b k6 (qTv_rideOn_30 k6 n)
def qTv_rideOn_6_b (k6 : Nat → Nat → Nat → Int32 → Int32 → Int32 → XH → XR) (a0 : Nat) (a1 : Nat) (a2 : Nat) (x3 : Int32) (x4 : Int32) (x5 : Int32) (h : XH) : XR :=
  gI h a1 5 3 (fun v1 =>
  if x5 < v1 then
    (gR h a1 5 4 (fun a_2 =>
      rdR h a_2 x5 (fun a_3 =>
        gI h a_3 3 2 (fun v4 =>
          qTv_rideOn_30 k6 LF a0 a1 a2 x3 x4 x5 v4 (0 : Int32) h))))
    else
    rZ x4 h)
def qTv_rideOn_6 : Nat → Nat → Nat → Nat → Int32 → Int32 → Int32 → XH → XR
  | 0 => fun _ _ _ _ _ _ _ => none
  | n + 1 => qTv_rideOn_6_b (qTv_rideOn_6 n)
def qTv_rideOn (a0 : Nat) (a1 : Nat) (a2 : Nat) (x3 : Int32) (h : XH) : XR :=
  qTv_rideOn_6 LF a0 a1 a2 x3 (0 : Int32) (0 : Int32) h
-- LineDiagram$Travel.leastRides(LLineDiagram$Plan;LLineDiagram$Board;III)I
def qTv_leastRides_89 (a0 : Nat) (x6 : Int32) (h : XH) : XR :=
  gR h a0 7 0 (fun a_1 =>
  rdI h a_1 x6 (fun v2 =>
    if v2 < (0 : Int32) then
      (rI (-2 : Int32) h)
      else
      gR h a0 7 0 (fun a_3 =>
        rdI h a_3 x6 (fun v4 =>
          rI v4 h))))
def qTv_leastRides_50_b (k50 : Nat → Nat → Nat → Int32 → Int32 → Int32 → XH → XR) (a0 : Nat) (a1 : Nat) (a2 : Nat) (x6 : Int32) (x7 : Int32) (x8 : Int32) (h : XH) : XR :=
  if x7 = (0 : Int32) then
  (qTv_leastRides_89 a0 x6 h)
  else
  gR h a0 7 0 (fun a_1 =>
    rdI h a_1 x6 (fun v2 =>
      if v2 < (0 : Int32) then
        (if x8 < (160 : Int32) then
          (isO h a0 7 (bI (qTv_rideOn a0 a1 a2 x8 h) (fun v4 h3 =>
            k50 a0 a1 a2 x6 v4 (x8 + (1 : Int32)) h3)))
          else
          qTv_leastRides_89 a0 x6 h)
        else
        qTv_leastRides_89 a0 x6 h))
def qTv_leastRides_50 : Nat → Nat → Nat → Nat → Int32 → Int32 → Int32 → XH → XR
  | 0 => fun _ _ _ _ _ _ _ => none
  | n + 1 => qTv_leastRides_50_b (qTv_leastRides_50 n)
def qTv_leastRides (a0 : Nat) (a1 : Nat) (a2 : Nat) (x3 : Int32) (x4 : Int32) (x5 : Int32) (h : XH) : XR :=
  if ((x4 * (20 : Int32)) + x5) < (0 : Int32) then
  (rI (-2 : Int32) h)
  else
  gR h a0 7 0 (fun a_1 =>
    lnA h a_1 (fun v2 =>
      if ((x4 * (20 : Int32)) + x5) < v2 then
        (gR h a0 7 0 (fun a_3 =>
          bV (qJA_fill a_3 (-1 : Int32) h) (fun h4 =>
            isO h4 a0 7 (bV (qTv_reach a0 a1 a2 x3 (0 : Int32) h4) (fun h5 =>
              qTv_leastRides_50 LF a0 a1 a2 ((x4 * (20 : Int32)) + x5) (1 : Int32) (0 : Int32) h5)))))
        else
        rI (-2 : Int32) h))
-- LineDiagram.rides(IIII)I
def qD_rides (a0 : Nat) (x1 : Int32) (x2 : Int32) (x3 : Int32) (x4 : Int32) (h : XH) : XR :=
  isO h a0 8 (bI (qD_isStation a0 x1 x2 h) (fun v2 h1 =>
  if v2 = (0 : Int32) then
    (rI (-1 : Int32) h1)
    else
    isO h1 a0 8 (bI (qD_isStation a0 x3 x4 h1) (fun v4 h3 =>
      if v4 = (0 : Int32) then
        (rI (-1 : Int32) h3)
        else
        gR h3 a0 8 9 (fun a_5 =>
          gR h3 a0 8 3 (fun a_6 =>
            gR h3 a0 8 8 (fun a_7 =>
              gR h3 a0 8 8 (fun a_8 =>
                isO h3 a_8 0 (bI (qB_stationCell a_8 x1 x2 h3) (fun v10 h9 =>
                  isO h9 a_5 7 (bI (qTv_leastRides a_5 a_6 a_7 v10 x3 x4 h9) (fun v12 h11 =>
                    rI v12 h11))))))))))))
-- LineDiagramModel.reaches(II)V
def qM_reaches (a0 : Nat) (x1 : Int32) (x2 : Int32) (h : XH) : XR :=
  gR h a0 9 38 (fun a_1 =>
  rdI h a_1 x1 (fun v2 =>
    if v2 < (0 : Int32) then
      (gR h a0 9 38 (fun a_3 =>
        wrI h a_3 x1 x2 (fun h4 =>
          gR h4 a0 9 39 (fun a_5 =>
            gI h4 a0 9 40 (fun v6 =>
              wrI h4 a_5 v6 x1 (fun h7 =>
                gI h7 a0 9 40 (fun v8 =>
                  pV h7 a0 9 40 (.int (v8 + (1 : Int32))) (fun h9 =>
                    rV h9))))))))
      else
      rV h))
-- LineDiagramModel.ridesOn(I)V
def qM_ridesOn_59 (k2 : Nat → Int32 → Int32 → XH → XR) (k12 : Nat → Int32 → Int32 → Int32 → XH → XR) (a0 : Nat) (x1 : Int32) (x2 : Int32) (x3 : Int32) (h : XH) : XR :=
  isO h a0 9 (bI (qM_of a0 x2 (1 : Int32) h) (fun v2 h1 =>
  if (x3 + (1 : Int32)) < v2 then
    (isO h1 a0 9 (bI (qM_cellOf a0 x2 (x3 + (1 : Int32)) h1) (fun v4 h3 =>
      gR h3 a0 9 38 (fun a_5 =>
        rdI h3 a_5 x1 (fun v6 =>
          isO h3 a0 9 (bV (qM_reaches a0 v4 (v6 + (1 : Int32)) h3) (fun h7 =>
            k12 a0 x1 x2 (x3 + (1 : Int32)) h7)))))))
    else
    k12 a0 x1 x2 (x3 + (1 : Int32)) h1))
def qM_ridesOn_12_b (k2 : Nat → Int32 → Int32 → XH → XR) (k12 : Nat → Int32 → Int32 → Int32 → XH → XR) (a0 : Nat) (x1 : Int32) (x2 : Int32) (x3 : Int32) (h : XH) : XR :=
  isO h a0 9 (bI (qM_of a0 x2 (1 : Int32) h) (fun v2 h1 =>
  if x3 < v2 then
    (isO h1 a0 9 (bI (qM_cellOf a0 x2 x3 h1) (fun v4 h3 =>
      if v4 = x1 then
        (if (0 : Int32) < x3 then
          (isO h3 a0 9 (bI (qM_cellOf a0 x2 (x3 - (1 : Int32)) h3) (fun v6 h5 =>
            gR h5 a0 9 38 (fun a_7 =>
              rdI h5 a_7 x1 (fun v8 =>
                isO h5 a0 9 (bV (qM_reaches a0 v6 (v8 + (1 : Int32)) h5) (fun h9 =>
                  qM_ridesOn_59 k2 k12 a0 x1 x2 x3 h9)))))))
          else
          qM_ridesOn_59 k2 k12 a0 x1 x2 x3 h3)
        else
        k12 a0 x1 x2 (x3 + (1 : Int32)) h3)))
    else
    k2 a0 x1 (x2 + (1 : Int32)) h1))
def qM_ridesOn_12 (k2 : Nat → Int32 → Int32 → XH → XR) : Nat → Nat → Int32 → Int32 → Int32 → XH → XR
  | 0 => fun _ _ _ _ _ => none
  | n + 1 => qM_ridesOn_12_b k2 (qM_ridesOn_12 k2 n)
def qM_ridesOn_2_b (k2 : Nat → Int32 → Int32 → XH → XR) (a0 : Nat) (x1 : Int32) (x2 : Int32) (h : XH) : XR :=
  gI h a0 9 6 (fun v1 =>
  if x2 < v1 then
    (qM_ridesOn_12 k2 LF a0 x1 x2 (0 : Int32) h)
    else
    rV h)
def qM_ridesOn_2 : Nat → Nat → Int32 → Int32 → XH → XR
  | 0 => fun _ _ _ _ => none
  | n + 1 => qM_ridesOn_2_b (qM_ridesOn_2 n)
def qM_ridesOn (a0 : Nat) (x1 : Int32) (h : XH) : XR :=
  qM_ridesOn_2 LF a0 x1 (0 : Int32) h
-- LineDiagramModel.rides(IIII)I
def qM_rides_96 (a0 : Nat) (x3 : Int32) (x4 : Int32) (h : XH) : XR :=
  gR h a0 9 38 (fun a_1 =>
  isO h a0 9 (bI (qM_cellOf a0 x3 x4 h) (fun v3 h2 =>
    rdI h2 a_1 v3 (fun v4 =>
      rI v4 h2))))
def qM_rides_70_b (k70 : Nat → Int32 → Int32 → Int32 → XH → XR) (a0 : Nat) (x3 : Int32) (x4 : Int32) (x5 : Int32) (h : XH) : XR :=
  gI h a0 9 40 (fun v1 =>
  if x5 < v1 then
    (gR h a0 9 39 (fun a_2 =>
      rdI h a_2 x5 (fun v3 =>
        isO h a0 9 (bV (qM_ridesOn a0 v3 h) (fun h4 =>
          k70 a0 x3 x4 (x5 + (1 : Int32)) h4)))))
    else
    qM_rides_96 a0 x3 x4 h)
def qM_rides_70 : Nat → Nat → Int32 → Int32 → Int32 → XH → XR
  | 0 => fun _ _ _ _ _ => none
  | n + 1 => qM_rides_70_b (qM_rides_70 n)
def qM_rides_51 (a0 : Nat) (x1 : Int32) (x2 : Int32) (x3 : Int32) (x4 : Int32) (h : XH) : XR :=
  pV h a0 9 40 (.int (0 : Int32)) (fun h1 =>
  isO h1 a0 9 (bI (qM_cellOf a0 x1 x2 h1) (fun v3 h2 =>
    isO h2 a0 9 (bV (qM_reaches a0 v3 (0 : Int32) h2) (fun h4 =>
      qM_rides_70 LF a0 x3 x4 (0 : Int32) h4)))))
def qM_rides_28_b (k28 : Nat → Int32 → Int32 → Int32 → Int32 → Int32 → XH → XR) (a0 : Nat) (x1 : Int32) (x2 : Int32) (x3 : Int32) (x4 : Int32) (x5 : Int32) (h : XH) : XR :=
  if x5 < (1600 : Int32) then
  (gR h a0 9 38 (fun a_1 =>
    wrI h a_1 x5 (-2 : Int32) (fun h2 =>
      k28 a0 x1 x2 x3 x4 (x5 + (1 : Int32)) h2)))
  else
  qM_rides_51 a0 x1 x2 x3 x4 h
def qM_rides_28 : Nat → Nat → Int32 → Int32 → Int32 → Int32 → Int32 → XH → XR
  | 0 => fun _ _ _ _ _ _ _ => none
  | n + 1 => qM_rides_28_b (qM_rides_28 n)
def qM_rides (a0 : Nat) (x1 : Int32) (x2 : Int32) (x3 : Int32) (x4 : Int32) (h : XH) : XR :=
  isO h a0 9 (bI (qM_isStation a0 x1 x2 h) (fun v2 h1 =>
  if v2 = (0 : Int32) then
    (rI (-1 : Int32) h1)
    else
    isO h1 a0 9 (bI (qM_isStation a0 x3 x4 h1) (fun v4 h3 =>
      if v4 = (0 : Int32) then
        (rI (-1 : Int32) h3)
        else
        isO h3 a0 9 (bV (qM_lays a0 h3) (fun h5 =>
          qM_rides_28 LF a0 x1 x2 x3 x4 (0 : Int32) h5))))))
-- LineDiagram$Travel.changeOn(LLineDiagram$Plan;LLineDiagram$Board;I)I
def qTv_changeOn_27_b (k6 : Nat → Nat → Int32 → Int32 → Int32 → XH → XR) (k27 : Nat → Nat → Int32 → Int32 → Int32 → Int32 → XH → XR) (a1 : Nat) (a2 : Nat) (x3 : Int32) (x4 : Int32) (x5 : Int32) (x6 : Int32) (h : XH) : XR :=
  gR h a1 5 4 (fun a_1 =>
  rdR h a_1 x5 (fun a_2 =>
    gI h a_2 3 2 (fun v3 =>
      if x6 < v3 then
        (gR h a2 0 5 (fun a_4 =>
          isO h a2 0 (bI (qB_stationCell a2 x5 x6 h) (fun v6 h5 =>
            rdI h5 a_4 v6 (fun v7 =>
              k27 a1 a2 x3 (x4 ||| v7) x5 (x6 + (1 : Int32)) h5)))))
        else
        k6 a1 a2 x3 x4 (x5 + (1 : Int32)) h)))
def qTv_changeOn_27 (k6 : Nat → Nat → Int32 → Int32 → Int32 → XH → XR) : Nat → Nat → Nat → Int32 → Int32 → Int32 → Int32 → XH → XR
  | 0 => fun _ _ _ _ _ _ _ => none
  | n + 1 => qTv_changeOn_27_b k6 (qTv_changeOn_27 k6 n)
def qTv_changeOn_6_b (k6 : Nat → Nat → Int32 → Int32 → Int32 → XH → XR) (a1 : Nat) (a2 : Nat) (x3 : Int32) (x4 : Int32) (x5 : Int32) (h : XH) : XR :=
  gI h a1 5 3 (fun v1 =>
  if x5 < v1 then
    (if ((jshr x3 x5) &&& (1 : Int32)) = (0 : Int32) then
      (k6 a1 a2 x3 x4 (x5 + (1 : Int32)) h)
      else
      qTv_changeOn_27 k6 LF a1 a2 x3 x4 x5 (0 : Int32) h)
    else
    rI x4 h)
def qTv_changeOn_6 : Nat → Nat → Nat → Int32 → Int32 → Int32 → XH → XR
  | 0 => fun _ _ _ _ _ _ => none
  | n + 1 => qTv_changeOn_6_b (qTv_changeOn_6 n)
def qTv_changeOn (a0 : Nat) (a1 : Nat) (a2 : Nat) (x3 : Int32) (h : XH) : XR :=
  qTv_changeOn_6 LF a1 a2 x3 x3 (0 : Int32) h
-- LineDiagram$Travel.leastChanges(LLineDiagram$Plan;LLineDiagram$Board;II)I
def qTv_leastChanges_11_b (k11 : Nat → Nat → Nat → Int32 → Int32 → Int32 → XH → XR) (a0 : Nat) (a1 : Nat) (a2 : Nat) (x4 : Int32) (x5 : Int32) (x6 : Int32) (h : XH) : XR :=
  if x6 < (8 : Int32) then
  (gR h a2 0 5 (fun a_1 =>
    rdI h a_1 x4 (fun v2 =>
      if (x5 &&& v2) = (0 : Int32) then
        (isO h a0 7 (bI (qTv_changeOn a0 a1 a2 x5 h) (fun v4 h3 =>
          k11 a0 a1 a2 x4 v4 (x6 + (1 : Int32)) h3)))
        else
        rI x6 h)))
  else
  rI (-2 : Int32) h
def qTv_leastChanges_11 : Nat → Nat → Nat → Nat → Int32 → Int32 → Int32 → XH → XR
  | 0 => fun _ _ _ _ _ _ _ => none
  | n + 1 => qTv_leastChanges_11_b (qTv_leastChanges_11 n)
def qTv_leastChanges (a0 : Nat) (a1 : Nat) (a2 : Nat) (x3 : Int32) (x4 : Int32) (h : XH) : XR :=
  gR h a2 0 5 (fun a_1 =>
  rdI h a_1 x3 (fun v2 =>
    qTv_leastChanges_11 LF a0 a1 a2 x4 v2 (0 : Int32) h))
-- LineDiagram.changes(IIII)I
def qD_changes (a0 : Nat) (x1 : Int32) (x2 : Int32) (x3 : Int32) (x4 : Int32) (h : XH) : XR :=
  isO h a0 8 (bI (qD_isStation a0 x1 x2 h) (fun v2 h1 =>
  if v2 = (0 : Int32) then
    (rI (-1 : Int32) h1)
    else
    isO h1 a0 8 (bI (qD_isStation a0 x3 x4 h1) (fun v4 h3 =>
      if v4 = (0 : Int32) then
        (rI (-1 : Int32) h3)
        else
        gR h3 a0 8 9 (fun a_5 =>
          gR h3 a0 8 3 (fun a_6 =>
            gR h3 a0 8 8 (fun a_7 =>
              gR h3 a0 8 8 (fun a_8 =>
                isO h3 a_8 0 (bI (qB_stationCell a_8 x1 x2 h3) (fun v10 h9 =>
                  gR h9 a0 8 8 (fun a_11 =>
                    isO h9 a_11 0 (bI (qB_stationCell a_11 x3 x4 h9) (fun v13 h12 =>
                      isO h12 a_5 7 (bI (qTv_leastChanges a_5 a_6 a_7 v10 v13 h12) (fun v15 h14 =>
                        rI v15 h14)))))))))))))))
