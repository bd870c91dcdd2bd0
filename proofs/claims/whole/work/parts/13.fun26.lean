-- LineDiagramModel.setupLength()I
def qM_setupLength (a0 : Nat) (h : XH) : XR :=
  isO h a0 9 (bV (qM_saysSetup a0 (-1 : Int32) h) (fun h1 =>
  gI h1 a0 9 41 (fun v2 =>
    rI v2 h1)))
-- LineDiagramModel.setupByte(I)I
def qM_setupByte (a0 : Nat) (x1 : Int32) (h : XH) : XR :=
  if x1 < (0 : Int32) then
  (rI (-1 : Int32) h)
  else
  isO h a0 9 (bV (qM_saysSetup a0 x1 h) (fun h1 =>
    gI h1 a0 9 43 (fun v2 =>
      rI v2 h1)))
-- LineDiagram.tapeLength()I
def qD_tapeLength (a0 : Nat) (h : XH) : XR :=
  gR h a0 8 0 (fun a_1 =>
  gI h a_1 6 0 (fun v2 =>
    rI v2 h))
-- LineDiagramModel.tapeLength()I
def qM_tapeLength (a0 : Nat) (h : XH) : XR :=
  gI h a0 9 1 (fun v1 =>
  rI v1 h)
