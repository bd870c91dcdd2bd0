-- LineDiagramModel.tapeLength()I
def qM_tapeLength (a0 : Nat) (h : XH) : XR :=
  gI h a0 9 1 (fun v1 =>
  rI v1 h)
