/-! printed by wip/p35/gen.py -/
-- PulseRemote.inRange(III)Z
noncomputable def f_X11_inRange (l0 : Int32) (l1 : Int32) (l2 : Int32) (μ : MS) : Option ((Int32 × MS)) :=
  if l0 < l1 then
    some (0, μ)
  else
    if l2 < l0 then
      some (0, μ)
    else
      some (1, μ)
-- PulseRemote$Table.protocolsFull()Z
noncomputable def f_X8_protocolsFull (l0 : Nat) (μ : MS) : Option ((Int32 × MS)) :=
  (gI μ 8 l0 1).bind fun x1 =>
  if x1 < 6 then
    some (0, μ)
  else
    some (1, μ)
-- PulseRemote$Protocol.useShape(IIII)V
noncomputable def f_X6_useShape (l0 : Nat) (l1 : Int32) (l2 : Int32) (l3 : Int32) (l4 : Int32) (μ : MS) : Option (MS) :=
  (pI μ 6 l0 0 l1).bind fun m2 =>
  (pI m2 6 l0 6 l2).bind fun m7 =>
  (pI m7 6 l0 7 l3).bind fun m12 =>
  (pI m12 6 l0 8 l4).bind fun m18 =>
  some m18
-- PulseRemote$Protocol.useLengths(IIIII)V
noncomputable def f_X6_useLengths (l0 : Nat) (l1 : Int32) (l2 : Int32) (l3 : Int32) (l4 : Int32) (l5 : Int32) (μ : MS) : Option (MS) :=
  (pI μ 6 l0 1 l1).bind fun m2 =>
  (pI m2 6 l0 2 l2).bind fun m7 =>
  (pI m7 6 l0 3 l3).bind fun m12 =>
  (pI m12 6 l0 4 l4).bind fun m18 =>
  (pI m18 6 l0 5 l5).bind fun m24 =>
  some m24
-- PulseRemote$Protocol.copyFrom(LPulseRemote$Protocol;)V
noncomputable def f_X6_copyFrom (l0 : Nat) (l1 : Nat) (μ : MS) : Option (MS) :=
  (gI μ 6 l1 0).bind fun x2 =>
  (gI μ 6 l1 6).bind fun x6 =>
  (gI μ 6 l1 7).bind fun x10 =>
  (gI μ 6 l1 8).bind fun x14 =>
  (isO μ 6 l0 (f_X6_useShape l0 x2 x6 x10 x14 μ)).bind fun z17 =>
  (gI z17 6 l1 1).bind fun x22 =>
  (gI z17 6 l1 2).bind fun x26 =>
  (gI z17 6 l1 3).bind fun x30 =>
  (gI z17 6 l1 4).bind fun x34 =>
  (gI z17 6 l1 5).bind fun x38 =>
  (isO z17 6 l0 (f_X6_useLengths l0 x22 x26 x30 x34 x38 z17)).bind fun z41 =>
  some z41
-- PulseRemote$Table.copyFrom(LPulseRemote$Table;)V
noncomputable def f_X8_copyFrom_29 (l0 : Nat) (l1 : Nat) (μ : MS) : Option (MS) :=
  (gR μ 8 l1 2).bind fun x30 =>
  (gR μ 8 l0 2).bind fun x35 =>
  (cpI μ x30 0 x35 0 12).bind fun m41 =>
  (gR m41 8 l1 3).bind fun x45 =>
  (gR m41 8 l0 3).bind fun x50 =>
  (cpI m41 x45 0 x50 0 12).bind fun m56 =>
  (gI m56 8 l1 1).bind fun x61 =>
  (pI m56 8 l0 1 x61).bind fun m64 =>
  (gI m64 8 l1 4).bind fun x69 =>
  (pI m64 8 l0 4 x69).bind fun m72 =>
  some m72
noncomputable def f_X8_copyFrom_2_b (l0 : Nat) (l1 : Nat) (l2 : Int32) (μ : MS) : Option (((Nat × Nat × Int32 × MS) ⊕ MS)) :=
  if 6 ≤ l2 then
    xr (f_X8_copyFrom_29 l0 l1 μ)
  else
    (gR μ 8 l0 0).bind fun x9 =>
    (aR μ 18 x9 l2).bind fun x13 =>
    (gR μ 8 l1 0).bind fun x15 =>
    (aR μ 18 x15 l2).bind fun x19 =>
    (isO μ 6 x13 (f_X6_copyFrom x13 x19 μ)).bind fun z20 =>
    (some (l2 + 1)).bind fun v23 =>
    some (.inl (l0, l1, v23, z20))
noncomputable def f_X8_copyFrom_2 (l0 : Nat) (l1 : Nat) (l2 : Int32) (μ : MS) : Option (MS) := lp (fun s : Nat × Nat × Int32 × MS => f_X8_copyFrom_2_b s.1 s.2.1 s.2.2.1 s.2.2.2) (l0, l1, l2, μ)
noncomputable def f_X8_copyFrom (l0 : Nat) (l1 : Nat) (μ : MS) : Option (MS) :=
  f_X8_copyFrom_2 l0 l1 0 μ
-- PulseRemote$Train.copyFrom(LPulseRemote$Train;)V
noncomputable def f_X10_copyFrom (l0 : Nat) (l1 : Nat) (μ : MS) : Option (MS) :=
  (gI μ 10 l1 1).bind fun x2 =>
  (pI μ 10 l0 1 (mnI (mxI x2 0) 200)).bind fun m15 =>
  (gR m15 10 l1 0).bind fun x19 =>
  (gR m15 10 l0 0).bind fun x24 =>
  (gI m15 10 l0 1).bind fun x29 =>
  (cpI m15 x19 0 x24 0 x29).bind fun m32 =>
  some m32
-- PulseRemote$State.copyFrom(LPulseRemote$State;)V
noncomputable def f_X7_copyFrom_39 (l0 : Nat) (l1 : Nat) (μ : MS) : Option (MS) :=
  (gI μ 7 l1 2).bind fun x41 =>
  (pI μ 7 l0 2 x41).bind fun m44 =>
  (gI m44 7 l1 3).bind fun x49 =>
  (pI m44 7 l0 3 x49).bind fun m52 =>
  (gI m52 7 l1 4).bind fun x57 =>
  (pI m52 7 l0 4 x57).bind fun m60 =>
  some m60
noncomputable def f_X7_copyFrom_13_b (l0 : Nat) (l1 : Nat) (l2 : Int32) (μ : MS) : Option (((Nat × Nat × Int32 × MS) ⊕ MS)) :=
  if 3 ≤ l2 then
    xr (f_X7_copyFrom_39 l0 l1 μ)
  else
    (gR μ 7 l0 1).bind fun x19 =>
    (aR μ 20 x19 l2).bind fun x23 =>
    (gR μ 7 l1 1).bind fun x25 =>
    (aR μ 20 x25 l2).bind fun x29 =>
    (isO μ 10 x23 (f_X10_copyFrom x23 x29 μ)).bind fun z30 =>
    (some (l2 + 1)).bind fun v33 =>
    some (.inl (l0, l1, v33, z30))
noncomputable def f_X7_copyFrom_13 (l0 : Nat) (l1 : Nat) (l2 : Int32) (μ : MS) : Option (MS) := lp (fun s : Nat × Nat × Int32 × MS => f_X7_copyFrom_13_b s.1 s.2.1 s.2.2.1 s.2.2.2) (l0, l1, l2, μ)
noncomputable def f_X7_copyFrom (l0 : Nat) (l1 : Nat) (μ : MS) : Option (MS) :=
  (gR μ 7 l0 0).bind fun x1 =>
  (gR μ 7 l1 0).bind fun x5 =>
  (isO μ 8 x1 (f_X8_copyFrom x1 x5 μ)).bind fun z8 =>
  f_X7_copyFrom_13 l0 l1 0 z8
-- PulseRemote.saveState()V
noncomputable def f_X11_saveState_56 (l0 : Nat) (μ : MS) : Option (MS) :=
  (gR μ 11 l0 1).bind fun x57 =>
  (gI μ 11 l0 2).bind fun x61 =>
  (aR μ 19 x57 x61).bind fun x64 =>
  (gR μ 11 l0 0).bind fun x66 =>
  (isO μ 7 x64 (f_X7_copyFrom x64 x66 μ)).bind fun z69 =>
  (gI z69 11 l0 2).bind fun x74 =>
  (pI z69 11 l0 2 (x74 + 1)).bind fun m79 =>
  some m79
noncomputable def f_X11_saveState_44 (l0 : Nat) (l1 : Nat) (μ : MS) : Option (MS) :=
  (gR μ 11 l0 1).bind fun x45 =>
  (sR μ 19 7 x45 5 l1).bind fun m50 =>
  (pI m50 11 l0 2 5).bind fun m53 =>
  f_X11_saveState_56 l0 m53
noncomputable def f_X11_saveState_18_b (l0 : Nat) (l1 : Nat) (l2 : Int32) (μ : MS) : Option (((Nat × Nat × Int32 × MS) ⊕ MS)) :=
  if 6 ≤ l2 then
    xr (f_X11_saveState_44 l0 l1 μ)
  else
    (gR μ 11 l0 1).bind fun x25 =>
    (gR μ 11 l0 1).bind fun x32 =>
    (aR μ 19 x32 l2).bind fun x36 =>
    (sR μ 19 7 x25 (l2 - 1) x36).bind fun m37 =>
    (some (l2 + 1)).bind fun v38 =>
    some (.inl (l0, l1, v38, m37))
noncomputable def f_X11_saveState_18 (l0 : Nat) (l1 : Nat) (l2 : Int32) (μ : MS) : Option (MS) := lp (fun s : Nat × Nat × Int32 × MS => f_X11_saveState_18_b s.1 s.2.1 s.2.2.1 s.2.2.2) (l0, l1, l2, μ)
noncomputable def f_X11_saveState (l0 : Nat) (μ : MS) : Option (MS) :=
  (gI μ 11 l0 2).bind fun x1 =>
  if x1 < 6 then
    f_X11_saveState_56 l0 μ
  else
    (gR μ 11 l0 1).bind fun x10 =>
    (aR μ 19 x10 0).bind fun x14 =>
    f_X11_saveState_18 l0 x14 1 μ
-- PulseRemote$Table.protocolAt(I)LPulseRemote$Protocol;
noncomputable def f_X8_protocolAt (l0 : Nat) (l1 : Int32) (μ : MS) : Option ((Nat × MS)) :=
  (gR μ 8 l0 0).bind fun x1 =>
  if l1 < 0 then
    (aR μ 18 x1 0).bind fun x19 =>
    some (x19, μ)
  else
    if 6 ≤ l1 then
      (aR μ 18 x1 0).bind fun x19 =>
      some (x19, μ)
    else
      (aR μ 18 x1 l1).bind fun x19 =>
      some (x19, μ)
-- PulseRemote$Table.newProtocol(IIII)I
noncomputable def f_X8_newProtocol_55 (l0 : Nat) (s0 : Int32) (s1 : Int32) (s2 : Int32) (s3 : Int32) (s4 : Int32) (s5 : Nat) (μ : MS) : Option ((Int32 × MS)) :=
  (isO μ 6 s5 (f_X6_useLengths s5 s4 s3 s2 s1 s0 μ)).bind fun z55 =>
  (gI z55 8 l0 1).bind fun x60 =>
  (pI z55 8 l0 1 (x60 + 1)).bind fun m65 =>
  (gI m65 8 l0 1).bind fun x69 =>
  some (x69 - 1, m65)
noncomputable def f_X8_newProtocol_43 (l0 : Nat) (l1 : Int32) (s0 : Int32) (s1 : Int32) (s2 : Int32) (s3 : Int32) (s4 : Nat) (μ : MS) : Option ((Int32 × MS)) :=
  if l1 = 2 then
    f_X8_newProtocol_55 l0 0 s0 s1 s2 s3 s4 μ
  else
    f_X8_newProtocol_55 l0 1690 s0 s1 s2 s3 s4 μ
noncomputable def f_X8_newProtocol (l0 : Nat) (l1 : Int32) (l2 : Int32) (l3 : Int32) (l4 : Int32) (μ : MS) : Option ((Int32 × MS)) :=
  (gI μ 8 l0 1).bind fun x2 =>
  (isO μ 8 l0 (f_X8_protocolAt l0 x2 μ)).bind fun z5 =>
  (isO z5.2 6 z5.1 (f_X6_useShape z5.1 l1 l2 l3 l4 z5.2)).bind fun z17 =>
  if l1 = 2 then
    f_X8_newProtocol_43 l0 l1 0 560 4500 9000 z5.1 z17
  else
    f_X8_newProtocol_43 l0 l1 560 560 4500 9000 z5.1 z17
-- PulseRemote.addProtocol(IIII)I
noncomputable def f_X11_addProtocol (l0 : Nat) (l1 : Int32) (l2 : Int32) (l3 : Int32) (l4 : Int32) (μ : MS) : Option ((Int32 × MS)) :=
  (f_X11_inRange l1 0 2 μ).bind fun z3 =>
  if z3.1 = 0 then
    some ((-1), z3.2)
  else
    (f_X11_inRange l2 1 16 z3.2).bind fun z13 =>
    if z13.1 = 0 then
      some ((-1), z13.2)
    else
      (f_X11_inRange l3 0 1 z13.2).bind fun z22 =>
      if z22.1 = 0 then
        some ((-1), z22.2)
      else
        (f_X11_inRange l4 0 2 z22.2).bind fun z32 =>
        if z32.1 = 0 then
          some ((-1), z32.2)
        else
          (gR z32.2 11 l0 0).bind fun x41 =>
          (gR z32.2 7 x41 0).bind fun x44 =>
          (isO z32.2 8 x44 (f_X8_protocolsFull x44 z32.2)).bind fun z47 =>
          if z47.1 = 0 then
            (isO z47.2 11 l0 (f_X11_saveState l0 z47.2)).bind fun z57 =>
            (gR z57 11 l0 0).bind fun x61 =>
            (gR z57 7 x61 0).bind fun x64 =>
            (isO z57 8 x64 (f_X8_newProtocol x64 l1 l2 l3 l4 z57)).bind fun z72 =>
            some (z72.1, z72.2)
          else
            some ((-3), z47.2)
-- PulseRemote$Table.hasProtocol(I)Z
noncomputable def f_X8_hasProtocol (l0 : Nat) (l1 : Int32) (μ : MS) : Option ((Int32 × MS)) :=
  if l1 < 0 then
    some (0, μ)
  else
    (gI μ 8 l0 1).bind fun x6 =>
    if x6 ≤ l1 then
      some (0, μ)
    else
      some (1, μ)
-- PulseRemote.isLength(I)Z
noncomputable def f_X11_isLength (l0 : Int32) (μ : MS) : Option ((Int32 × MS)) :=
  (f_X11_inRange l0 50 20000 μ).bind fun z6 =>
  rZ z6.1 z6.2
-- PulseRemote.lengthsPossible(IIIIII)Z
noncomputable def f_X11_lengthsPossible_42  (μ : MS) : Option ((Int32 × MS)) :=
  some (0, μ)
noncomputable def f_X11_lengthsPossible (l0 : Int32) (l1 : Int32) (l2 : Int32) (l3 : Int32) (l4 : Int32) (l5 : Int32) (μ : MS) : Option ((Int32 × MS)) :=
  (f_X11_isLength l1 μ).bind fun z1 =>
  if z1.1 = 0 then
    some (0, z1.2)
  else
    (f_X11_isLength l2 z1.2).bind fun z8 =>
    if z8.1 = 0 then
      some (0, z8.2)
    else
      (f_X11_isLength l3 z8.2).bind fun z15 =>
      if z15.1 = 0 then
        some (0, z15.2)
      else
        if l0 = 2 then
          if l4 = 0 then
            if l5 = 0 then
              some (1, z15.2)
            else
              f_X11_lengthsPossible_42 z15.2
          else
            f_X11_lengthsPossible_42 z15.2
        else
          (f_X11_isLength l4 z15.2).bind fun z48 =>
          if z48.1 = 0 then
            some (0, z48.2)
          else
            (f_X11_isLength l5 z48.2).bind fun z56 =>
            if z56.1 = 0 then
              some (0, z56.2)
            else
              if l4 = l5 then
                some (0, z56.2)
              else
                some (1, z56.2)
-- PulseRemote.setLengths(IIIIII)I
noncomputable def f_X11_setLengths (l0 : Nat) (l1 : Int32) (l2 : Int32) (l3 : Int32) (l4 : Int32) (l5 : Int32) (l6 : Int32) (μ : MS) : Option ((Int32 × MS)) :=
  (gR μ 11 l0 0).bind fun x1 =>
  (gR μ 7 x1 0).bind fun x4 =>
  (isO μ 8 x4 (f_X8_hasProtocol x4 l1 μ)).bind fun z8 =>
  if z8.1 = 0 then
    some ((-1), z8.2)
  else
    (gR z8.2 11 l0 0).bind fun x17 =>
    (gR z8.2 7 x17 0).bind fun x20 =>
    (isO z8.2 8 x20 (f_X8_protocolAt x20 l1 z8.2)).bind fun z24 =>
    (gI z24.2 6 z24.1 0).bind fun x31 =>
    (f_X11_lengthsPossible x31 l2 l3 l4 l5 l6 z24.2).bind fun z42 =>
    if z42.1 = 0 then
      some ((-1), z42.2)
    else
      (gI z42.2 6 z24.1 3).bind fun x52 =>
      (isO z42.2 11 l0 (f_X11_saveState l0 z42.2)).bind fun z58 =>
      (isO z58 6 z24.1 (f_X6_useLengths z24.1 l2 l3 l4 l5 l6 z58)).bind fun z71 =>
      some (x52, z71)
-- PulseRemote.protocol(II)I
noncomputable def f_X11_protocol (l0 : Nat) (l1 : Int32) (l2 : Int32) (μ : MS) : Option ((Int32 × MS)) :=
  (gR μ 11 l0 0).bind fun x1 =>
  (gR μ 7 x1 0).bind fun x4 =>
  (isO μ 8 x4 (f_X8_hasProtocol x4 l1 μ)).bind fun z8 =>
  if z8.1 = 0 then
    some ((-1), z8.2)
  else
    (gR z8.2 11 l0 0).bind fun x17 =>
    (gR z8.2 7 x17 0).bind fun x20 =>
    (isO z8.2 8 x20 (f_X8_protocolAt x20 l1 z8.2)).bind fun z24 =>
    if l2 = 0 then
      (gI z24.2 6 z24.1 0).bind fun x81 =>
      some (x81, z24.2)
    else
    if l2 = 1 then
      (gI z24.2 6 z24.1 1).bind fun x86 =>
      some (x86, z24.2)
    else
    if l2 = 2 then
      (gI z24.2 6 z24.1 2).bind fun x91 =>
      some (x91, z24.2)
    else
    if l2 = 3 then
      (gI z24.2 6 z24.1 3).bind fun x96 =>
      some (x96, z24.2)
    else
    if l2 = 4 then
      (gI z24.2 6 z24.1 4).bind fun x101 =>
      some (x101, z24.2)
    else
    if l2 = 5 then
      (gI z24.2 6 z24.1 5).bind fun x106 =>
      some (x106, z24.2)
    else
    if l2 = 6 then
      (gI z24.2 6 z24.1 6).bind fun x111 =>
      some (x111, z24.2)
    else
    if l2 = 7 then
      (gI z24.2 6 z24.1 7).bind fun x116 =>
      some (x116, z24.2)
    else
    if l2 = 8 then
      (gI z24.2 6 z24.1 8).bind fun x121 =>
      some (x121, z24.2)
    else
      some ((-1), z24.2)
-- PulseRemote.count(I)I
noncomputable def f_X11_count (l0 : Nat) (l1 : Int32) (μ : MS) : Option ((Int32 × MS)) :=
  if l1 = 0 then
    (gR μ 11 l0 0).bind fun x33 =>
    (gR μ 7 x33 0).bind fun x36 =>
    (gI μ 8 x36 1).bind fun x39 =>
    some (x39, μ)
  else
  if l1 = 1 then
    (gR μ 11 l0 0).bind fun x44 =>
    (gR μ 7 x44 0).bind fun x47 =>
    (gI μ 8 x47 4).bind fun x50 =>
    some (x50, μ)
  else
  if l1 = 2 then
    (gR μ 11 l0 3).bind fun x55 =>
    (gI μ 9 x55 1).bind fun x58 =>
    some (x58, μ)
  else
  if l1 = 3 then
    (gI μ 11 l0 2).bind fun x63 =>
    some (x63, μ)
  else
    some ((-1), μ)
-- PulseRemote.isSlot(I)Z
noncomputable def f_X11_isSlot (l0 : Int32) (μ : MS) : Option ((Int32 × MS)) :=
  if l0 < 0 then
    some (0, μ)
  else
    if 3 ≤ l0 then
      some (0, μ)
    else
      some (1, μ)
-- PulseRemote$State.trainAt(I)LPulseRemote$Train;
noncomputable def f_X7_trainAt (l0 : Nat) (l1 : Int32) (μ : MS) : Option ((Nat × MS)) :=
  (gR μ 7 l0 1).bind fun x1 =>
  (f_X11_isSlot l1 μ).bind fun z5 =>
  if z5.1 = 0 then
    (aR z5.2 20 x1 0).bind fun x16 =>
    some (x16, z5.2)
  else
    (aR z5.2 20 x1 l1).bind fun x16 =>
    some (x16, z5.2)
-- PulseRemote$Train.endsWithMark()Z
noncomputable def f_X10_endsWithMark (l0 : Nat) (μ : MS) : Option ((Int32 × MS)) :=
  (gI μ 10 l0 1).bind fun x1 =>
  (rmI x1 2).bind fun v5 =>
  if v5 = 1 then
    some (1, μ)
  else
    some (0, μ)
-- PulseRemote$Train.at(I)I
noncomputable def f_X10_at (l0 : Nat) (l1 : Int32) (μ : MS) : Option ((Int32 × MS)) :=
  if l1 < 0 then
    some (0, μ)
  else
    (gI μ 10 l0 1).bind fun x6 =>
    if x6 ≤ l1 then
      some (0, μ)
    else
      if 200 ≤ l1 then
        some (0, μ)
      else
        (gR μ 10 l0 0).bind fun x20 =>
        (aI μ 15 x20 l1).bind fun x24 =>
        some (x24, μ)
-- PulseRemote$FrameList.note(II)V
noncomputable def f_X3_note (l0 : Nat) (l1 : Int32) (l2 : Int32) (μ : MS) : Option (MS) :=
  (gI μ 3 l0 2).bind fun x1 =>
  if 100 ≤ x1 then
    some μ
  else
    (gR μ 3 l0 0).bind fun x10 =>
    (gI μ 3 l0 2).bind fun x14 =>
    (sI μ 15 x10 x14 l1).bind fun m18 =>
    (gR m18 3 l0 1).bind fun x20 =>
    (gI m18 3 l0 2).bind fun x24 =>
    (sI m18 15 x20 x24 l2).bind fun m28 =>
    (gI m28 3 l0 2).bind fun x31 =>
    (pI m28 3 l0 2 (x31 + 1)).bind fun m36 =>
    some m36
-- PulseRemote$FrameList.split(LPulseRemote$Train;I)V
noncomputable def f_X3_split_102 (l0 : Nat) (l3 : Int32) (l4 : Int32) (μ : MS) : Option (MS) :=
  (isO μ 3 l0 (f_X3_note l0 l4 (l3 - l4) μ)).bind fun z109 =>
  some z109
noncomputable def f_X3_split_96 (l0 : Nat) (l2 : Int32) (l3 : Int32) (l4 : Int32) (l5 : Int32) (μ : MS) : Option (((Nat × Int32 × Int32 × Int32 × Int32 × MS) ⊕ MS)) :=
  (some (l5 + 2)).bind fun v96 =>
  some (.inl (l0, l2, l3, l4, v96, μ))
noncomputable def f_X3_split_60_b (l0 : Nat) (l2 : Int32) (l3 : Int32) (l4 : Int32) (l5 : Int32) (μ : MS) : Option (((Nat × Int32 × Int32 × Int32 × Int32 × MS) ⊕ MS)) :=
  if l3 ≤ l5 then
    xr (f_X3_split_102 l0 l3 l4 μ)
  else
    (gR μ 3 l0 3).bind fun x67 =>
    (isO μ 10 x67 (f_X10_at x67 l5 μ)).bind fun z72 =>
    if z72.1 ≤ l2 then
      f_X3_split_96 l0 l2 l3 l4 l5 z72.2
    else
      (isO z72.2 3 l0 (f_X3_note l0 l4 (l5 - l4) z72.2)).bind fun z87 =>
      (some (l5 + 1)).bind fun v94 =>
      f_X3_split_96 l0 l2 l3 v94 l5 z87
noncomputable def f_X3_split_60 (l0 : Nat) (l2 : Int32) (l3 : Int32) (l4 : Int32) (l5 : Int32) (μ : MS) : Option (MS) := lp (fun s : Nat × Int32 × Int32 × Int32 × Int32 × MS => f_X3_split_60_b s.1 s.2.1 s.2.2.1 s.2.2.2.1 s.2.2.2.2.1 s.2.2.2.2.2) (l0, l2, l3, l4, l5, μ)
noncomputable def f_X3_split_53 (l0 : Nat) (l2 : Int32) (s0 : Int32) (μ : MS) : Option (MS) :=
  f_X3_split_60 l0 l2 s0 0 1 μ
noncomputable def f_X3_split (l0 : Nat) (l1 : Nat) (l2 : Int32) (μ : MS) : Option (MS) :=
  (gR μ 3 l0 3).bind fun x1 =>
  (isO μ 10 x1 (f_X10_copyFrom x1 l1 μ)).bind fun z5 =>
  (pI z5 3 l0 2 0).bind fun m10 =>
  (gR m10 3 l0 3).bind fun x14 =>
  (gI m10 10 x14 1).bind fun x17 =>
  if x17 = 0 then
    some m10
  else
    (gR m10 3 l0 3).bind fun x25 =>
    (isO m10 10 x25 (f_X10_endsWithMark x25 m10)).bind fun z28 =>
    if z28.1 = 0 then
      (gR z28.2 3 l0 3).bind fun x45 =>
      (gI z28.2 10 x45 1).bind fun x48 =>
      f_X3_split_53 l0 l2 (x48 - 1) z28.2
    else
      (gR z28.2 3 l0 3).bind fun x35 =>
      (gI z28.2 10 x35 1).bind fun x38 =>
      f_X3_split_53 l0 l2 x38 z28.2
-- PulseRemote$FrameList.sizeOf(I)I
noncomputable def f_X3_sizeOf (l0 : Nat) (l1 : Int32) (μ : MS) : Option ((Int32 × MS)) :=
  if l1 < 0 then
    some (0, μ)
  else
    (gI μ 3 l0 2).bind fun x6 =>
    if x6 ≤ l1 then
      some (0, μ)
    else
      (gR μ 3 l0 1).bind fun x13 =>
      (aI μ 15 x13 l1).bind fun x17 =>
      some (x17, μ)
-- PulseRemote$Clusters.makeEmpty()V
noncomputable def f_X0_makeEmpty (l0 : Nat) (μ : MS) : Option (MS) :=
  (pI μ 0 l0 1 0).bind fun m2 =>
  some m2
-- PulseRemote$FrameList.startOf(I)I
noncomputable def f_X3_startOf (l0 : Nat) (l1 : Int32) (μ : MS) : Option ((Int32 × MS)) :=
  if l1 < 0 then
    some (0, μ)
  else
    (gI μ 3 l0 2).bind fun x6 =>
    if x6 ≤ l1 then
      some (0, μ)
    else
      (gR μ 3 l0 0).bind fun x13 =>
      (aI μ 15 x13 l1).bind fun x17 =>
      some (x17, μ)
-- PulseRemote$FrameList.durationAt(II)I
noncomputable def f_X3_durationAt (l0 : Nat) (l1 : Int32) (l2 : Int32) (μ : MS) : Option ((Int32 × MS)) :=
  if l2 < 0 then
    some (0, μ)
  else
    (isO μ 3 l0 (f_X3_sizeOf l0 l1 μ)).bind fun z7 =>
    if z7.1 ≤ l2 then
      some (0, z7.2)
    else
      (gR z7.2 3 l0 3).bind fun x14 =>
      (isO z7.2 3 l0 (f_X3_startOf l0 l1 z7.2)).bind fun z19 =>
      (isO z19.2 10 x14 (f_X10_at x14 (z19.1 + l2) z19.2)).bind fun z24 =>
      some (z24.1, z24.2)
-- PulseRemote$Clusters.insert(I)V
noncomputable def f_X0_insert_52 (l0 : Nat) (l1 : Int32) (l2 : Int32) (μ : MS) : Option (MS) :=
  (gR μ 0 l0 0).bind fun x53 =>
  (sI μ 15 x53 l2 l1).bind fun m58 =>
  (gI m58 0 l0 1).bind fun x61 =>
  (pI m58 0 l0 1 (x61 + 1)).bind fun m66 =>
  some m66
noncomputable def f_X0_insert_16_b (l0 : Nat) (l1 : Int32) (l2 : Int32) (μ : MS) : Option (((Nat × Int32 × Int32 × MS) ⊕ MS)) :=
  if l2 ≤ 0 then
    xr (f_X0_insert_52 l0 l1 l2 μ)
  else
    (gR μ 0 l0 0).bind fun x21 =>
    (aI μ 15 x21 (l2 - 1)).bind fun x27 =>
    if x27 ≤ l1 then
      xr (f_X0_insert_52 l0 l1 l2 μ)
    else
      (gR μ 0 l0 0).bind fun x33 =>
      (gR μ 0 l0 0).bind fun x38 =>
      (aI μ 15 x38 (l2 - 1)).bind fun x44 =>
      (sI μ 15 x33 l2 x44).bind fun m45 =>
      (some (l2 + (-1))).bind fun v46 =>
      some (.inl (l0, l1, v46, m45))
noncomputable def f_X0_insert_16 (l0 : Nat) (l1 : Int32) (l2 : Int32) (μ : MS) : Option (MS) := lp (fun s : Nat × Int32 × Int32 × MS => f_X0_insert_16_b s.1 s.2.1 s.2.2.1 s.2.2.2) (l0, l1, l2, μ)
noncomputable def f_X0_insert (l0 : Nat) (l1 : Int32) (μ : MS) : Option (MS) :=
  (gI μ 0 l0 1).bind fun x1 =>
  if x1 < 200 then
    (gI μ 0 l0 1).bind fun x12 =>
    f_X0_insert_16 l0 l1 x12 μ
  else
    some μ
-- PulseRemote$Learner.insertAll(LPulseRemote$FrameList;I)V
noncomputable def f_X4_insertAll_42  (μ : MS) : Option (MS) :=
  some μ
noncomputable def f_X4_insertAll_27 (l0 : Nat) (l1 : Nat) (l2 : Int32) (l3 : Int32) (s0 : Nat) (μ : MS) : Option (((Nat × Nat × Int32 × Int32 × MS) ⊕ MS)) :=
  (isO μ 3 l1 (f_X3_durationAt l1 l2 l3 μ)).bind fun z30 =>
  (isO z30.2 0 s0 (f_X0_insert s0 z30.1 z30.2)).bind fun z33 =>
  (some (l3 + 1)).bind fun v36 =>
  some (.inl (l0, l1, l2, v36, z33))
noncomputable def f_X4_insertAll_2_b (l0 : Nat) (l1 : Nat) (l2 : Int32) (l3 : Int32) (μ : MS) : Option (((Nat × Nat × Int32 × Int32 × MS) ⊕ MS)) :=
  (gI μ 4 l0 2).bind fun x4 =>
  if x4 ≤ l3 then
    xr (f_X4_insertAll_42 μ)
  else
    (rmI l3 2).bind fun v12 =>
    if v12 = 0 then
      (gR μ 4 l0 0).bind fun x17 =>
      f_X4_insertAll_27 l0 l1 l2 l3 x17 μ
    else
      (gR μ 4 l0 1).bind fun x24 =>
      f_X4_insertAll_27 l0 l1 l2 l3 x24 μ
noncomputable def f_X4_insertAll_2 (l0 : Nat) (l1 : Nat) (l2 : Int32) (l3 : Int32) (μ : MS) : Option (MS) := lp (fun s : Nat × Nat × Int32 × Int32 × MS => f_X4_insertAll_2_b s.1 s.2.1 s.2.2.1 s.2.2.2.1 s.2.2.2.2) (l0, l1, l2, l3, μ)
noncomputable def f_X4_insertAll (l0 : Nat) (l1 : Nat) (l2 : Int32) (μ : MS) : Option (MS) :=
  f_X4_insertAll_2 l0 l1 l2 2 μ
-- PulseRemote$Clusters.mean(II)I
noncomputable def f_X0_mean_39 (l1 : Int32) (l2 : Int32) (l3 : Int32) (μ : MS) : Option ((Int32 × MS)) :=
  if l2 ≤ l1 then
    some (0, μ)
  else
    (dvI l3 (l2 - l1)).bind fun v48 =>
    some (v48, μ)
noncomputable def f_X0_mean_9_b (l0 : Nat) (l1 : Int32) (l2 : Int32) (l3 : Int32) (l4 : Int32) (μ : MS) : Option (((Nat × Int32 × Int32 × Int32 × Int32 × MS) ⊕ (Int32 × MS))) :=
  if l2 ≤ l4 then
    xr (f_X0_mean_39 l1 l2 l3 μ)
  else
    if 200 ≤ l4 then
      xr (f_X0_mean_39 l1 l2 l3 μ)
    else
      (gR μ 0 l0 0).bind fun x25 =>
      (aI μ 15 x25 l4).bind fun x30 =>
      (some (l3 + x30)).bind fun v32 =>
      (some (l4 + 1)).bind fun v33 =>
      some (.inl (l0, l1, l2, v32, v33, μ))
noncomputable def f_X0_mean_9 (l0 : Nat) (l1 : Int32) (l2 : Int32) (l3 : Int32) (l4 : Int32) (μ : MS) : Option ((Int32 × MS)) := lp (fun s : Nat × Int32 × Int32 × Int32 × Int32 × MS => f_X0_mean_9_b s.1 s.2.1 s.2.2.1 s.2.2.2.1 s.2.2.2.2.1 s.2.2.2.2.2) (l0, l1, l2, l3, l4, μ)
noncomputable def f_X0_mean (l0 : Nat) (l1 : Int32) (l2 : Int32) (μ : MS) : Option ((Int32 × MS)) :=
  (some (mxI l1 0)).bind fun v7 =>
  f_X0_mean_9 l0 l1 l2 0 v7 μ
-- PulseRemote$Clusters.noteCluster(I)V
noncomputable def f_X0_noteCluster_28 (l0 : Nat) (μ : MS) : Option (MS) :=
  (gI μ 0 l0 2).bind fun x30 =>
  (pI μ 0 l0 2 (x30 + 1)).bind fun m35 =>
  some m35
noncomputable def f_X0_noteCluster (l0 : Nat) (l1 : Int32) (μ : MS) : Option (MS) :=
  (gI μ 0 l0 2).bind fun x1 =>
  if x1 = 0 then
    (pI μ 0 l0 3 l1).bind fun m9 =>
    f_X0_noteCluster_28 l0 m9
  else
    (gI μ 0 l0 2).bind fun x16 =>
    if x16 = 1 then
      (pI μ 0 l0 4 l1).bind fun m25 =>
      f_X0_noteCluster_28 l0 m25
    else
      f_X0_noteCluster_28 l0 μ
-- PulseRemote$Clusters.cut()V
noncomputable def f_X0_cut_71  (μ : MS) : Option (MS) :=
  some μ
noncomputable def f_X0_cut_65 (l0 : Nat) (l1 : Int32) (l2 : Int32) (μ : MS) : Option (((Nat × Int32 × Int32 × MS) ⊕ MS)) :=
  (some (l2 + 1)).bind fun v65 =>
  some (.inl (l0, l1, v65, μ))
noncomputable def f_X0_cut_53 (l0 : Nat) (l1 : Int32) (l2 : Int32) (μ : MS) : Option (((Nat × Int32 × Int32 × MS) ⊕ MS)) :=
  (isO μ 0 l0 (f_X0_mean l0 l1 l2 μ)).bind fun z57 =>
  (isO z57.2 0 l0 (f_X0_noteCluster l0 z57.1 z57.2)).bind fun z60 =>
  f_X0_cut_65 l0 l2 l2 z60
noncomputable def f_X0_cut_9_b (l0 : Nat) (l1 : Int32) (l2 : Int32) (μ : MS) : Option (((Nat × Int32 × Int32 × MS) ⊕ MS)) :=
  (gI μ 0 l0 1).bind fun x11 =>
  if x11 < l2 then
    xr (f_X0_cut_71 μ)
  else
    if 200 < l2 then
      xr (f_X0_cut_71 μ)
    else
      (gI μ 0 l0 1).bind fun x26 =>
      if l2 = x26 then
        f_X0_cut_53 l0 l1 l2 μ
      else
        (gR μ 0 l0 0).bind fun x34 =>
        (aI μ 15 x34 l2).bind fun x38 =>
        (gR μ 0 l0 0).bind fun x42 =>
        (aI μ 15 x42 (l2 - 1)).bind fun x48 =>
        if (2 * x38) ≤ (3 * x48) then
          f_X0_cut_65 l0 l1 l2 μ
        else
          f_X0_cut_53 l0 l1 l2 μ
noncomputable def f_X0_cut_9 (l0 : Nat) (l1 : Int32) (l2 : Int32) (μ : MS) : Option (MS) := lp (fun s : Nat × Int32 × Int32 × MS => f_X0_cut_9_b s.1 s.2.1 s.2.2.1 s.2.2.2) (l0, l1, l2, μ)
noncomputable def f_X0_cut (l0 : Nat) (μ : MS) : Option (MS) :=
  (pI μ 0 l0 2 0).bind fun m2 =>
  f_X0_cut_9 l0 0 1 m2
-- PulseRemote$Learner.gather(LPulseRemote$FrameList;)Z
noncomputable def f_X4_gather_103 (l0 : Nat) (l2 : Int32) (l3 : Int32) (l4 : Int32) (μ : MS) : Option ((Int32 × MS)) :=
  if l2 = 0 then
    some (0, μ)
  else
    (dvI l3 l2).bind fun v112 =>
    (pI μ 4 l0 3 v112).bind fun m113 =>
    (dvI l4 l2).bind fun v120 =>
    (pI m113 4 l0 4 v120).bind fun m121 =>
    (gR m121 4 l0 0).bind fun x125 =>
    (isO m121 0 x125 (f_X0_cut x125 m121)).bind fun z128 =>
    (gR z128 4 l0 1).bind fun x132 =>
    (isO z128 0 x132 (f_X0_cut x132 z128)).bind fun z135 =>
    some (1, z135)
noncomputable def f_X4_gather_97 (l0 : Nat) (l1 : Nat) (l2 : Int32) (l3 : Int32) (l4 : Int32) (l5 : Int32) (μ : MS) : Option (((Nat × Nat × Int32 × Int32 × Int32 × Int32 × MS) ⊕ (Int32 × MS))) :=
  (some (l5 + 1)).bind fun v97 =>
  some (.inl (l0, l1, l2, l3, l4, v97, μ))
noncomputable def f_X4_gather_43_b (l0 : Nat) (l1 : Nat) (l2 : Int32) (l3 : Int32) (l4 : Int32) (l5 : Int32) (μ : MS) : Option (((Nat × Nat × Int32 × Int32 × Int32 × Int32 × MS) ⊕ (Int32 × MS))) :=
  (gI μ 3 l1 2).bind fun x46 =>
  if x46 ≤ l5 then
    xr (f_X4_gather_103 l0 l2 l3 l4 μ)
  else
    (isO μ 3 l1 (f_X3_sizeOf l1 l5 μ)).bind fun z55 =>
    (gI z55.2 4 l0 2).bind fun x59 =>
    if z55.1 = x59 then
      (some (l2 + 1)).bind fun v65 =>
      (isO z55.2 3 l1 (f_X3_durationAt l1 l5 0 z55.2)).bind fun z73 =>
      (some (l3 + z73.1)).bind fun v77 =>
      (isO z73.2 3 l1 (f_X3_durationAt l1 l5 1 z73.2)).bind fun z84 =>
      (some (l4 + z84.1)).bind fun v88 =>
      (isO z84.2 4 l0 (f_X4_insertAll l0 l1 l5 z84.2)).bind fun z94 =>
      f_X4_gather_97 l0 l1 v65 v77 v88 l5 z94
    else
      f_X4_gather_97 l0 l1 l2 l3 l4 l5 z55.2
noncomputable def f_X4_gather_43 (l0 : Nat) (l1 : Nat) (l2 : Int32) (l3 : Int32) (l4 : Int32) (l5 : Int32) (μ : MS) : Option ((Int32 × MS)) := lp (fun s : Nat × Nat × Int32 × Int32 × Int32 × Int32 × MS => f_X4_gather_43_b s.1 s.2.1 s.2.2.1 s.2.2.2.1 s.2.2.2.2.1 s.2.2.2.2.2.1 s.2.2.2.2.2.2) (l0, l1, l2, l3, l4, l5, μ)
noncomputable def f_X4_gather (l0 : Nat) (l1 : Nat) (μ : MS) : Option ((Int32 × MS)) :=
  (isO μ 3 l1 (f_X3_sizeOf l1 0 μ)).bind fun z3 =>
  (pI z3.2 4 l0 2 z3.1).bind fun m6 =>
  (gI m6 4 l0 2).bind fun x10 =>
  if 5 ≤ x10 then
    (gR m6 4 l0 0).bind fun x20 =>
    (isO m6 0 x20 (f_X0_makeEmpty x20 m6)).bind fun z23 =>
    (gR z23 4 l0 1).bind fun x27 =>
    (isO z23 0 x27 (f_X0_makeEmpty x27 z23)).bind fun z30 =>
    f_X4_gather_43 l0 l1 0 0 0 0 z30
  else
    some (0, m6)
-- PulseRemote$Learner.makeProtocol(IILPulseRemote$Clusters;LPulseRemote$Clusters;)Z
noncomputable def f_X4_makeProtocol (l0 : Nat) (l1 : Int32) (l2 : Int32) (l3 : Nat) (l4 : Nat) (μ : MS) : Option ((Int32 × MS)) :=
  (pI μ 4 l0 5 l1).bind fun m2 =>
  (pI m2 4 l0 6 l2).bind fun m7 =>
  (gI m7 0 l3 3).bind fun x12 =>
  (pI m7 4 l0 7 x12).bind fun m15 =>
  (gI m15 0 l4 3).bind fun x21 =>
  (pI m15 4 l0 8 x21).bind fun m24 =>
  (gI m24 0 l4 4).bind fun x30 =>
  (pI m24 4 l0 9 x30).bind fun m33 =>
  (gI m33 4 l0 6).bind fun x37 =>
  if 16 < x37 then
    some (0, m33)
  else
    (gI m33 4 l0 5).bind fun x46 =>
    (gI m33 4 l0 3).bind fun x50 =>
    (gI m33 4 l0 4).bind fun x54 =>
    (gI m33 4 l0 7).bind fun x58 =>
    (gI m33 4 l0 8).bind fun x62 =>
    (gI m33 4 l0 9).bind fun x66 =>
    (f_X11_lengthsPossible x46 x50 x54 x58 x62 x66 m33).bind fun z69 =>
    if z69.1 = 0 then
      some (0, z69.2)
    else
      some (1, z69.2)
-- PulseRemote$Learner.conclude()Z
noncomputable def f_X4_conclude_44 (l0 : Nat) (μ : MS) : Option ((Int32 × MS)) :=
  (gR μ 4 l0 0).bind fun x45 =>
  (gI μ 0 x45 2).bind fun x48 =>
  if x48 = 2 then
    (gR μ 4 l0 1).bind fun x56 =>
    (gI μ 0 x56 2).bind fun x59 =>
    if x59 = 1 then
      (gI μ 4 l0 2).bind fun x69 =>
      (dvI (x69 - 1) 2).bind fun v75 =>
      (gR μ 4 l0 1).bind fun x77 =>
      (gR μ 4 l0 0).bind fun x81 =>
      (isO μ 4 l0 (f_X4_makeProtocol l0 1 v75 x77 x81 μ)).bind fun z84 =>
      rZ z84.1 z84.2
    else
      some (0, μ)
  else
    some (0, μ)
noncomputable def f_X4_conclude (l0 : Nat) (μ : MS) : Option ((Int32 × MS)) :=
  (gR μ 4 l0 0).bind fun x1 =>
  (gI μ 0 x1 2).bind fun x4 =>
  if x4 = 1 then
    (gR μ 4 l0 1).bind fun x12 =>
    (gI μ 0 x12 2).bind fun x15 =>
    if x15 = 2 then
      (gI μ 4 l0 2).bind fun x25 =>
      (dvI (x25 - 3) 2).bind fun v31 =>
      (gR μ 4 l0 0).bind fun x33 =>
      (gR μ 4 l0 1).bind fun x37 =>
      (isO μ 4 l0 (f_X4_makeProtocol l0 0 v31 x33 x37 μ)).bind fun z40 =>
      rZ z40.1 z40.2
    else
      f_X4_conclude_44 l0 μ
  else
    f_X4_conclude_44 l0 μ
-- PulseRemote.learn(I)I
noncomputable def f_X11_learn (l0 : Nat) (l1 : Int32) (μ : MS) : Option ((Int32 × MS)) :=
  (f_X11_isSlot l1 μ).bind fun z1 =>
  if z1.1 = 0 then
    some ((-1), z1.2)
  else
    (gR z1.2 11 l0 7).bind fun x10 =>
    (gR z1.2 11 l0 0).bind fun x14 =>
    (isO z1.2 7 x14 (f_X7_trainAt x14 l1 z1.2)).bind fun z18 =>
    (gR z18.2 11 l0 0).bind fun x22 =>
    (gI z18.2 7 x22 2).bind fun x25 =>
    (isO z18.2 3 x10 (f_X3_split x10 z18.1 x25 z18.2)).bind fun z28 =>
    (gR z28 11 l0 10).bind fun x32 =>
    (gR z28 11 l0 7).bind fun x36 =>
    (isO z28 4 x32 (f_X4_gather x32 x36 z28)).bind fun z39 =>
    if z39.1 = 0 then
      some ((-2), z39.2)
    else
      (gR z39.2 11 l0 10).bind fun x46 =>
      (isO z39.2 4 x46 (f_X4_conclude x46 z39.2)).bind fun z49 =>
      if z49.1 = 0 then
        some ((-2), z49.2)
      else
        (gR z49.2 11 l0 0).bind fun x59 =>
        (gR z49.2 7 x59 0).bind fun x62 =>
        (isO z49.2 8 x62 (f_X8_protocolsFull x62 z49.2)).bind fun z65 =>
        if z65.1 = 0 then
          (isO z65.2 11 l0 (f_X11_saveState l0 z65.2)).bind fun z75 =>
          (gR z75 11 l0 0).bind fun x79 =>
          (gR z75 7 x79 0).bind fun x82 =>
          (gR z75 11 l0 10).bind fun x86 =>
          (gI z75 4 x86 5).bind fun x89 =>
          (gR z75 11 l0 10).bind fun x93 =>
          (gI z75 4 x93 6).bind fun x96 =>
          (isO z75 8 x82 (f_X8_newProtocol x82 x89 x96 0 0 z75)).bind fun z101 =>
          (gR z101.2 11 l0 0).bind fun x106 =>
          (gR z101.2 7 x106 0).bind fun x109 =>
          (isO z101.2 8 x109 (f_X8_protocolAt x109 z101.1 z101.2)).bind fun z113 =>
          (gR z113.2 11 l0 10).bind fun x117 =>
          (gI z113.2 4 x117 3).bind fun x120 =>
          (gR z113.2 11 l0 10).bind fun x124 =>
          (gI z113.2 4 x124 4).bind fun x127 =>
          (gR z113.2 11 l0 10).bind fun x131 =>
          (gI z113.2 4 x131 7).bind fun x134 =>
          (gR z113.2 11 l0 10).bind fun x138 =>
          (gI z113.2 4 x138 8).bind fun x141 =>
          (gR z113.2 11 l0 10).bind fun x145 =>
          (gI z113.2 4 x145 9).bind fun x148 =>
          (isO z113.2 6 z113.1 (f_X6_useLengths z113.1 x120 x127 x134 x141 x148 z113.2)).bind fun z151 =>
          some (z101.1, z151)
        else
          some ((-3), z65.2)
-- PulseRemote$Protocol.hasCode(I)Z
noncomputable def f_X6_hasCode (l0 : Nat) (l1 : Int32) (μ : MS) : Option ((Int32 × MS)) :=
  if l1 < 0 then
    some (0, μ)
  else
    (gI μ 6 l0 6).bind fun x7 =>
    if (1 <<< (x7 &&& 31)) ≤ l1 then
      some (0, μ)
    else
      some (1, μ)
-- PulseRemote$Protocol.maskAt(I)I
noncomputable def f_X6_maskAt (l0 : Nat) (l1 : Int32) (μ : MS) : Option ((Int32 × MS)) :=
  (gI μ 6 l0 7).bind fun x1 =>
  if x1 = 1 then
    some (1 <<< (l1 &&& 31), μ)
  else
    (gI μ 6 l0 6).bind fun x16 =>
    some (1 <<< (((x16 - 1) - l1) &&& 31), μ)
-- PulseRemote$Protocol.identityOf(I)I
noncomputable def f_X6_identityOf (l0 : Nat) (l1 : Int32) (μ : MS) : Option ((Int32 × MS)) :=
  (gI μ 6 l0 8).bind fun x1 =>
  if x1 = 2 then
    (isO μ 6 l0 (f_X6_maskAt l0 0 μ)).bind fun z11 =>
    some (l1 &&& (z11.1 ^^^ ((-1))), z11.2)
  else
    some (l1, μ)
-- PulseRemote$Table.hasButton(I)Z
noncomputable def f_X8_hasButton (l0 : Nat) (l1 : Int32) (μ : MS) : Option ((Int32 × MS)) :=
  if l1 < 0 then
    some (0, μ)
  else
    (gI μ 8 l0 4).bind fun x6 =>
    if x6 ≤ l1 then
      some (0, μ)
    else
      if 12 ≤ l1 then
        some (0, μ)
      else
        some (1, μ)
-- PulseRemote$Table.protocolOfButton(I)I
noncomputable def f_X8_protocolOfButton (l0 : Nat) (l1 : Int32) (μ : MS) : Option ((Int32 × MS)) :=
  (isO μ 8 l0 (f_X8_hasButton l0 l1 μ)).bind fun z2 =>
  if z2.1 = 0 then
    some ((-9), z2.2)
  else
    (gR z2.2 8 l0 2).bind fun x9 =>
    (aI z2.2 15 x9 l1).bind fun x13 =>
    some (x13, z2.2)
-- PulseRemote$Table.identityOfButton(I)I
noncomputable def f_X8_identityOfButton (l0 : Nat) (l1 : Int32) (μ : MS) : Option ((Int32 × MS)) :=
  (isO μ 8 l0 (f_X8_hasButton l0 l1 μ)).bind fun z2 =>
  if z2.1 = 0 then
    some ((-9), z2.2)
  else
    (gR z2.2 8 l0 3).bind fun x9 =>
    (aI z2.2 15 x9 l1).bind fun x13 =>
    some (x13, z2.2)
-- PulseRemote$Table.findButton(II)I
noncomputable def f_X8_findButton_36  (μ : MS) : Option ((Int32 × MS)) :=
  some ((-9), μ)
noncomputable def f_X8_findButton_28 (l3 : Int32) (μ : MS) : Option ((Int32 × MS)) :=
  some (l3, μ)
noncomputable def f_X8_findButton_30 (l0 : Nat) (l1 : Int32) (l2 : Int32) (l3 : Int32) (μ : MS) : Option (((Nat × Int32 × Int32 × Int32 × MS) ⊕ (Int32 × MS))) :=
  (some (l3 + 1)).bind fun v30 =>
  some (.inl (l0, l1, l2, v30, μ))
noncomputable def f_X8_findButton_2_b (l0 : Nat) (l1 : Int32) (l2 : Int32) (l3 : Int32) (μ : MS) : Option (((Nat × Int32 × Int32 × Int32 × MS) ⊕ (Int32 × MS))) :=
  (gI μ 8 l0 4).bind fun x4 =>
  if x4 ≤ l3 then
    xr (f_X8_findButton_36 μ)
  else
    (isO μ 8 l0 (f_X8_protocolOfButton l0 l3 μ)).bind fun z12 =>
    if z12.1 = l1 then
      (isO z12.2 8 l0 (f_X8_identityOfButton l0 l3 z12.2)).bind fun z21 =>
      if z21.1 = l2 then
        xr (f_X8_findButton_28 l3 z21.2)
      else
        f_X8_findButton_30 l0 l1 l2 l3 z21.2
    else
      f_X8_findButton_30 l0 l1 l2 l3 z12.2
noncomputable def f_X8_findButton_2 (l0 : Nat) (l1 : Int32) (l2 : Int32) (l3 : Int32) (μ : MS) : Option ((Int32 × MS)) := lp (fun s : Nat × Int32 × Int32 × Int32 × MS => f_X8_findButton_2_b s.1 s.2.1 s.2.2.1 s.2.2.2.1 s.2.2.2.2) (l0, l1, l2, l3, μ)
noncomputable def f_X8_findButton (l0 : Nat) (l1 : Int32) (l2 : Int32) (μ : MS) : Option ((Int32 × MS)) :=
  f_X8_findButton_2 l0 l1 l2 0 μ
-- PulseRemote$Table.buttonsFull()Z
noncomputable def f_X8_buttonsFull (l0 : Nat) (μ : MS) : Option ((Int32 × MS)) :=
  (gI μ 8 l0 4).bind fun x1 =>
  if x1 < 12 then
    some (0, μ)
  else
    some (1, μ)
-- PulseRemote$Table.newButton(II)I
noncomputable def f_X8_newButton_47 (l0 : Nat) (μ : MS) : Option ((Int32 × MS)) :=
  (gI μ 8 l0 4).bind fun x48 =>
  some (x48 - 1, μ)
noncomputable def f_X8_newButton (l0 : Nat) (l1 : Int32) (l2 : Int32) (μ : MS) : Option ((Int32 × MS)) :=
  (gI μ 8 l0 4).bind fun x2 =>
  (pI μ 8 l0 4 (x2 + 1)).bind fun m7 =>
  (gI m7 8 l0 4).bind fun x12 =>
  (isO m7 8 l0 (f_X8_hasButton l0 (x12 - 1) m7)).bind fun z17 =>
  if z17.1 = 0 then
    f_X8_newButton_47 l0 z17.2
  else
    (gR z17.2 8 l0 2).bind fun x24 =>
    (gI z17.2 8 l0 4).bind fun x28 =>
    (sI z17.2 15 x24 (x28 - 1) l1).bind fun m34 =>
    (gR m34 8 l0 3).bind fun x36 =>
    (gI m34 8 l0 4).bind fun x40 =>
    (sI m34 15 x36 (x40 - 1) l2).bind fun m46 =>
    f_X8_newButton_47 l0 m46
-- PulseRemote.addButton(II)I
noncomputable def f_X11_addButton (l0 : Nat) (l1 : Int32) (l2 : Int32) (μ : MS) : Option ((Int32 × MS)) :=
  (gR μ 11 l0 0).bind fun x1 =>
  (gR μ 7 x1 0).bind fun x4 =>
  (isO μ 8 x4 (f_X8_hasProtocol x4 l1 μ)).bind fun z10 =>
  if z10.1 = 0 then
    some ((-1), z10.2)
  else
    (isO z10.2 8 x4 (f_X8_protocolAt x4 l1 z10.2)).bind fun z18 =>
    (isO z18.2 6 z18.1 (f_X6_hasCode z18.1 l2 z18.2)).bind fun z22 =>
    if z22.1 = 0 then
      some ((-1), z22.2)
    else
      (isO z22.2 8 x4 (f_X8_protocolAt x4 l1 z22.2)).bind fun z32 =>
      (isO z32.2 6 z32.1 (f_X6_identityOf z32.1 l2 z32.2)).bind fun z36 =>
      (isO z36.2 8 x4 (f_X8_findButton x4 l1 z36.1 z36.2)).bind fun z45 =>
      if z45.1 = ((-9)) then
        (isO z45.2 8 x4 (f_X8_buttonsFull x4 z45.2)).bind fun z57 =>
        if z57.1 = 0 then
          (isO z57.2 11 l0 (f_X11_saveState l0 z57.2)).bind fun z67 =>
          (isO z67 8 x4 (f_X8_newButton x4 l1 z36.1 z67)).bind fun z74 =>
          some (z74.1, z74.2)
        else
          some ((-3), z57.2)
      else
        some ((-2), z45.2)
-- PulseRemote.button(II)I
noncomputable def f_X11_button (l0 : Nat) (l1 : Int32) (l2 : Int32) (μ : MS) : Option ((Int32 × MS)) :=
  (gR μ 11 l0 0).bind fun x1 =>
  (gR μ 7 x1 0).bind fun x4 =>
  (isO μ 8 x4 (f_X8_hasButton x4 l1 μ)).bind fun z8 =>
  if z8.1 = 0 then
    some ((-1), z8.2)
  else
    (f_X11_inRange l2 0 1 z8.2).bind fun z17 =>
    if z17.1 = 0 then
      some ((-1), z17.2)
    else
      if l2 = 0 then
        (gR z17.2 11 l0 0).bind fun x30 =>
        (gR z17.2 7 x30 0).bind fun x33 =>
        (isO z17.2 8 x33 (f_X8_protocolOfButton x33 l1 z17.2)).bind fun z37 =>
        some (z37.1, z37.2)
      else
        (gR z17.2 11 l0 0).bind fun x44 =>
        (gR z17.2 7 x44 0).bind fun x47 =>
        (isO z17.2 8 x47 (f_X8_identityOfButton x47 l1 z17.2)).bind fun z51 =>
        some (z51.1, z51.2)
-- PulseRemote.setGap(I)I
noncomputable def f_X11_setGap (l0 : Nat) (l1 : Int32) (μ : MS) : Option ((Int32 × MS)) :=
  (f_X11_inRange l1 1000 60000 μ).bind fun z6 =>
  if z6.1 = 0 then
    some ((-1), z6.2)
  else
    (isO z6.2 11 l0 (f_X11_saveState l0 z6.2)).bind fun z15 =>
    (gR z15 11 l0 0).bind fun x19 =>
    (gI z15 7 x19 2).bind fun x22 =>
    (gR z15 11 l0 0).bind fun x27 =>
    (pI z15 7 x27 2 l1).bind fun m31 =>
    some (x22, m31)
-- PulseRemote.setHold(I)I
noncomputable def f_X11_setHold (l0 : Nat) (l1 : Int32) (μ : MS) : Option ((Int32 × MS)) :=
  (f_X11_inRange l1 1000 60000 μ).bind fun z6 =>
  if z6.1 = 0 then
    some ((-1), z6.2)
  else
    (isO z6.2 11 l0 (f_X11_saveState l0 z6.2)).bind fun z15 =>
    (gR z15 11 l0 0).bind fun x19 =>
    (gI z15 7 x19 3).bind fun x22 =>
    (gR z15 11 l0 0).bind fun x27 =>
    (pI z15 7 x27 3 l1).bind fun m31 =>
    some (x22, m31)
-- PulseRemote.setTolerance(I)I
noncomputable def f_X11_setTolerance (l0 : Nat) (l1 : Int32) (μ : MS) : Option ((Int32 × MS)) :=
  (f_X11_inRange l1 0 40 μ).bind fun z4 =>
  if z4.1 = 0 then
    some ((-1), z4.2)
  else
    (isO z4.2 11 l0 (f_X11_saveState l0 z4.2)).bind fun z13 =>
    (gR z13 11 l0 0).bind fun x17 =>
    (gI z13 7 x17 4).bind fun x20 =>
    (gR z13 11 l0 0).bind fun x25 =>
    (pI z13 7 x25 4 l1).bind fun m29 =>
    some (x20, m29)
-- PulseRemote$Train.put(I)V
noncomputable def f_X10_put (l0 : Nat) (l1 : Int32) (μ : MS) : Option (MS) :=
  (gI μ 10 l0 1).bind fun x1 =>
  if x1 < 0 then
    some μ
  else
    (gI μ 10 l0 1).bind fun x8 =>
    if 200 ≤ x8 then
      some μ
    else
      (gR μ 10 l0 0).bind fun x18 =>
      (gI μ 10 l0 1).bind fun x22 =>
      (sI μ 15 x18 x22 l1).bind fun m26 =>
      (gI m26 10 l0 1).bind fun x29 =>
      (pI m26 10 l0 1 (x29 + 1)).bind fun m34 =>
      some m34
-- PulseRemote.append(II)I
noncomputable def f_X11_append (l0 : Nat) (l1 : Int32) (l2 : Int32) (μ : MS) : Option ((Int32 × MS)) :=
  (f_X11_isSlot l1 μ).bind fun z1 =>
  if z1.1 = 0 then
    some ((-1), z1.2)
  else
    (f_X11_inRange l2 1 60000 z1.2).bind fun z11 =>
    if z11.1 = 0 then
      some ((-1), z11.2)
    else
      (gR z11.2 11 l0 0).bind fun x20 =>
      (isO z11.2 7 x20 (f_X7_trainAt x20 l1 z11.2)).bind fun z24 =>
      (gI z24.2 10 z24.1 1).bind fun x29 =>
      if x29 < 200 then
        (isO z24.2 11 l0 (f_X11_saveState l0 z24.2)).bind fun z42 =>
        (isO z42 10 z24.1 (f_X10_put z24.1 l2 z42)).bind fun z47 =>
        (gI z47 10 z24.1 1).bind fun x51 =>
        some (x51, z47)
      else
        some ((-3), z24.2)
-- PulseRemote$Train.join(ZI)V
noncomputable def f_X10_join_43 (l0 : Nat) (l2 : Int32) (μ : MS) : Option (MS) :=
  (isO μ 10 l0 (f_X10_put l0 l2 μ)).bind fun z45 =>
  some z45
noncomputable def f_X10_join (l0 : Nat) (l1 : Int32) (l2 : Int32) (μ : MS) : Option (MS) :=
  (gI μ 10 l0 1).bind fun x1 =>
  if x1 ≤ 0 then
    f_X10_join_43 l0 l2 μ
  else
    (gI μ 10 l0 1).bind fun x8 =>
    if 200 < x8 then
      f_X10_join_43 l0 l2 μ
    else
      (isO μ 10 l0 (f_X10_endsWithMark l0 μ)).bind fun z18 =>
      if z18.1 = l1 then
        (gR z18.2 10 l0 0).bind fun x26 =>
        (gI z18.2 10 l0 1).bind fun x30 =>
        (aI z18.2 15 x26 (x30 - 1)).bind fun x36 =>
        (sI z18.2 15 x26 (x30 - 1) (x36 + l2)).bind fun m39 =>
        some m39
      else
        f_X10_join_43 l0 l2 z18.2
-- PulseRemote$Protocol.writeBit(ZILPulseRemote$Train;)V
noncomputable def f_X6_writeBit_27 (l0 : Nat) (s0 : Int32) (s1 : Nat) (μ : MS) : Option (MS) :=
  (gI μ 6 l0 3).bind fun x28 =>
  (isO μ 10 s1 (f_X10_join s1 s0 x28 μ)).bind fun z31 =>
  some z31
noncomputable def f_X6_writeBit_73 (s0 : Int32) (s1 : Nat) (μ : MS) : Option (MS) :=
  (isO μ 10 s1 (f_X10_put s1 s0 μ)).bind fun z73 =>
  some z73
noncomputable def f_X6_writeBit_57 (l0 : Nat) (l1 : Int32) (l3 : Nat) (μ : MS) : Option (MS) :=
  if l1 = 0 then
    (gI μ 6 l0 4).bind fun x70 =>
    f_X6_writeBit_73 x70 l3 μ
  else
    (gI μ 6 l0 5).bind fun x63 =>
    f_X6_writeBit_73 x63 l3 μ
noncomputable def f_X6_writeBit_103 (s0 : Int32) (s1 : Nat) (μ : MS) : Option (MS) :=
  (isO μ 10 s1 (f_X10_put s1 s0 μ)).bind fun z103 =>
  some z103
noncomputable def f_X6_writeBit (l0 : Nat) (l1 : Int32) (l2 : Int32) (l3 : Nat) (μ : MS) : Option (MS) :=
  (gI μ 6 l0 0).bind fun x1 =>
  if x1 = 2 then
    (gI μ 6 l0 3).bind fun x11 =>
    (isO μ 10 l3 (f_X10_join l3 l1 x11 μ)).bind fun z14 =>
    if l1 = 0 then
      f_X6_writeBit_27 l0 1 l3 z14
    else
      f_X6_writeBit_27 l0 0 l3 z14
  else
    (gI μ 6 l0 0).bind fun x38 =>
    if x38 = 1 then
      if l2 ≤ 0 then
        f_X6_writeBit_57 l0 l1 l3 μ
      else
        (gI μ 6 l0 3).bind fun x51 =>
        (isO μ 10 l3 (f_X10_put l3 x51 μ)).bind fun z54 =>
        f_X6_writeBit_57 l0 l1 l3 z54
    else
      (gI μ 6 l0 3).bind fun x81 =>
      (isO μ 10 l3 (f_X10_put l3 x81 μ)).bind fun z84 =>
      if l1 = 0 then
        (gI z84 6 l0 4).bind fun x100 =>
        f_X6_writeBit_103 x100 l3 z84
      else
        (gI z84 6 l0 5).bind fun x93 =>
        f_X6_writeBit_103 x93 l3 z84
-- PulseRemote$Protocol.writeFrame(ILPulseRemote$Train;)V
noncomputable def f_X6_writeFrame_73 (l2 : Nat) (μ : MS) : Option (MS) :=
  (isO μ 10 l2 (f_X10_endsWithMark l2 μ)).bind fun z74 =>
  if z74.1 = 0 then
    (gI z74.2 10 l2 1).bind fun x82 =>
    (pI z74.2 10 l2 1 (x82 - 1)).bind fun m87 =>
    some m87
  else
    some z74.2
noncomputable def f_X6_writeFrame_58 (l0 : Nat) (l2 : Nat) (μ : MS) : Option (MS) :=
  (gI μ 6 l0 0).bind fun x59 =>
  if x59 = 0 then
    (gI μ 6 l0 3).bind fun x67 =>
    (isO μ 10 l2 (f_X10_put l2 x67 μ)).bind fun z70 =>
    f_X6_writeFrame_73 l2 z70
  else
    f_X6_writeFrame_73 l2 μ
noncomputable def f_X6_writeFrame_47 (l0 : Nat) (l1 : Int32) (l2 : Nat) (l3 : Int32) (s0 : Int32) (s1 : Nat) (μ : MS) : Option (((Nat × Int32 × Nat × Int32 × MS) ⊕ MS)) :=
  (isO μ 6 s1 (f_X6_writeBit s1 s0 l3 l2 μ)).bind fun z49 =>
  (some (l3 + 1)).bind fun v52 =>
  some (.inl (l0, l1, l2, v52, z49))
noncomputable def f_X6_writeFrame_23_b (l0 : Nat) (l1 : Int32) (l2 : Nat) (l3 : Int32) (μ : MS) : Option (((Nat × Int32 × Nat × Int32 × MS) ⊕ MS)) :=
  (gI μ 6 l0 6).bind fun x25 =>
  if x25 ≤ l3 then
    xr (f_X6_writeFrame_58 l0 l2 μ)
  else
    (isO μ 6 l0 (f_X6_maskAt l0 l3 μ)).bind fun z35 =>
    if (l1 &&& z35.1) = 0 then
      f_X6_writeFrame_47 l0 l1 l2 l3 0 l0 z35.2
    else
      f_X6_writeFrame_47 l0 l1 l2 l3 1 l0 z35.2
noncomputable def f_X6_writeFrame_23 (l0 : Nat) (l1 : Int32) (l2 : Nat) (l3 : Int32) (μ : MS) : Option (MS) := lp (fun s : Nat × Int32 × Nat × Int32 × MS => f_X6_writeFrame_23_b s.1 s.2.1 s.2.2.1 s.2.2.2.1 s.2.2.2.2) (l0, l1, l2, l3, μ)
noncomputable def f_X6_writeFrame (l0 : Nat) (l1 : Int32) (l2 : Nat) (μ : MS) : Option (MS) :=
  (pI μ 10 l2 1 0).bind fun m2 =>
  (gI m2 6 l0 1).bind fun x7 =>
  (isO m2 10 l2 (f_X10_put l2 x7 m2)).bind fun z10 =>
  (gI z10 6 l0 2).bind fun x15 =>
  (isO z10 10 l2 (f_X10_put l2 x15 z10)).bind fun z18 =>
  f_X6_writeFrame_23 l0 l1 l2 0 z18
-- PulseRemote.appendScratch(LPulseRemote$Train;I)I
noncomputable def f_X11_appendScratch_100 (l1 : Nat) (μ : MS) : Option ((Int32 × MS)) :=
  (gI μ 10 l1 1).bind fun x101 =>
  some (x101, μ)
noncomputable def f_X11_appendScratch_69_b (l0 : Nat) (l1 : Nat) (l4 : Int32) (μ : MS) : Option (((Nat × Nat × Int32 × MS) ⊕ (Int32 × MS))) :=
  (gR μ 11 l0 5).bind fun x72 =>
  (gI μ 10 x72 1).bind fun x75 =>
  if x75 ≤ l4 then
    xr (f_X11_appendScratch_100 l1 μ)
  else
    (gR μ 11 l0 5).bind fun x83 =>
    (isO μ 10 x83 (f_X10_at x83 l4 μ)).bind fun z88 =>
    (isO z88.2 10 l1 (f_X10_put l1 z88.1 z88.2)).bind fun z91 =>
    (some (l4 + 1)).bind fun v94 =>
    some (.inl (l0, l1, v94, z91))
noncomputable def f_X11_appendScratch_69 (l0 : Nat) (l1 : Nat) (l4 : Int32) (μ : MS) : Option ((Int32 × MS)) := lp (fun s : Nat × Nat × Int32 × MS => f_X11_appendScratch_69_b s.1 s.2.1 s.2.2.1 s.2.2.2) (l0, l1, l4, μ)
noncomputable def f_X11_appendScratch_66 (l0 : Nat) (l1 : Nat) (μ : MS) : Option ((Int32 × MS)) :=
  f_X11_appendScratch_69 l0 l1 0 μ
noncomputable def f_X11_appendScratch_29 (l0 : Nat) (l1 : Nat) (l2 : Int32) (s0 : Int32) (μ : MS) : Option ((Int32 × MS)) :=
  (gI μ 10 l1 1).bind fun x31 =>
  (gR μ 11 l0 5).bind fun x37 =>
  (gI μ 10 x37 1).bind fun x40 =>
  if ((x31 + s0) + x40) ≤ 200 then
    (isO μ 11 l0 (f_X11_saveState l0 μ)).bind fun z54 =>
    if s0 ≤ 0 then
      f_X11_appendScratch_66 l0 l1 z54
    else
      (isO z54 10 l1 (f_X10_put l1 l2 z54)).bind fun z63 =>
      f_X11_appendScratch_66 l0 l1 z63
  else
    some ((-3), μ)
noncomputable def f_X11_appendScratch_17 (l0 : Nat) (l1 : Nat) (l2 : Int32) (μ : MS) : Option ((Int32 × MS)) :=
  (gI μ 10 l1 1).bind fun x18 =>
  if x18 ≤ 0 then
    f_X11_appendScratch_29 l0 l1 l2 0 μ
  else
    f_X11_appendScratch_29 l0 l1 l2 1 μ
noncomputable def f_X11_appendScratch (l0 : Nat) (l1 : Nat) (l2 : Int32) (μ : MS) : Option ((Int32 × MS)) :=
  (gI μ 10 l1 1).bind fun x1 =>
  if x1 ≤ 0 then
    f_X11_appendScratch_17 l0 l1 l2 μ
  else
    (isO μ 10 l1 (f_X10_endsWithMark l1 μ)).bind fun z8 =>
    if z8.1 = 0 then
      some ((-2), z8.2)
    else
      f_X11_appendScratch_17 l0 l1 l2 z8.2
-- PulseRemote.send(IIII)I
noncomputable def f_X11_send (l0 : Nat) (l1 : Int32) (l2 : Int32) (l3 : Int32) (l4 : Int32) (μ : MS) : Option ((Int32 × MS)) :=
  (f_X11_isSlot l1 μ).bind fun z1 =>
  if z1.1 = 0 then
    some ((-1), z1.2)
  else
    (gR z1.2 11 l0 0).bind fun x8 =>
    (gR z1.2 7 x8 0).bind fun x11 =>
    (isO z1.2 8 x11 (f_X8_hasProtocol x11 l2 z1.2)).bind fun z15 =>
    if z15.1 = 0 then
      some ((-1), z15.2)
    else
      (gR z15.2 11 l0 0).bind fun x22 =>
      (gR z15.2 7 x22 0).bind fun x25 =>
      (isO z15.2 8 x25 (f_X8_protocolAt x25 l2 z15.2)).bind fun z29 =>
      (isO z29.2 6 z29.1 (f_X6_hasCode z29.1 l3 z29.2)).bind fun z33 =>
      if z33.1 = 0 then
        some ((-1), z33.2)
      else
        (f_X11_inRange l4 1 60000 z33.2).bind fun z44 =>
        if z44.1 = 0 then
          some ((-1), z44.2)
        else
          (gR z44.2 11 l0 0).bind fun x53 =>
          (gR z44.2 7 x53 0).bind fun x56 =>
          (isO z44.2 8 x56 (f_X8_protocolAt x56 l2 z44.2)).bind fun z60 =>
          (gR z60.2 11 l0 5).bind fun x65 =>
          (isO z60.2 6 z60.1 (f_X6_writeFrame z60.1 l3 x65 z60.2)).bind fun z68 =>
          (gR z68 11 l0 0).bind fun x73 =>
          (isO z68 7 x73 (f_X7_trainAt x73 l1 z68)).bind fun z77 =>
          (isO z77.2 11 l0 (f_X11_appendScratch l0 z77.1 l4 z77.2)).bind fun z82 =>
          some (z82.1, z82.2)
-- PulseRemote$Protocol.writeShortFrame(LPulseRemote$Train;)V
noncomputable def f_X6_writeShortFrame (l0 : Nat) (l1 : Nat) (μ : MS) : Option (MS) :=
  (pI μ 10 l1 1 0).bind fun m2 =>
  (gI m2 6 l0 1).bind fun x7 =>
  (isO m2 10 l1 (f_X10_put l1 x7 m2)).bind fun z10 =>
  (gI z10 6 l0 2).bind fun x15 =>
  (dvI x15 2).bind fun v19 =>
  (isO z10 10 l1 (f_X10_put l1 v19 z10)).bind fun z20 =>
  (gI z20 6 l0 3).bind fun x25 =>
  (isO z20 10 l1 (f_X10_put l1 x25 z20)).bind fun z28 =>
  some z28
-- PulseRemote.sendShort(III)I
noncomputable def f_X11_sendShort (l0 : Nat) (l1 : Int32) (l2 : Int32) (l3 : Int32) (μ : MS) : Option ((Int32 × MS)) :=
  (f_X11_isSlot l1 μ).bind fun z1 =>
  if z1.1 = 0 then
    some ((-1), z1.2)
  else
    (gR z1.2 11 l0 0).bind fun x8 =>
    (gR z1.2 7 x8 0).bind fun x11 =>
    (isO z1.2 8 x11 (f_X8_hasProtocol x11 l2 z1.2)).bind fun z15 =>
    if z15.1 = 0 then
      some ((-1), z15.2)
    else
      (f_X11_inRange l3 1 60000 z15.2).bind fun z25 =>
      if z25.1 = 0 then
        some ((-1), z25.2)
      else
        (gR z25.2 11 l0 0).bind fun x34 =>
        (gR z25.2 7 x34 0).bind fun x37 =>
        (isO z25.2 8 x37 (f_X8_protocolAt x37 l2 z25.2)).bind fun z41 =>
        (gR z41.2 11 l0 5).bind fun x45 =>
        (isO z41.2 6 z41.1 (f_X6_writeShortFrame z41.1 x45 z41.2)).bind fun z48 =>
        (gR z48 11 l0 0).bind fun x53 =>
        (isO z48 7 x53 (f_X7_trainAt x53 l1 z48)).bind fun z57 =>
        (isO z57.2 11 l0 (f_X11_appendScratch l0 z57.1 l3 z57.2)).bind fun z61 =>
        some (z61.1, z61.2)
-- PulseRemote.clear(I)I
noncomputable def f_X11_clear (l0 : Nat) (l1 : Int32) (μ : MS) : Option ((Int32 × MS)) :=
  (f_X11_isSlot l1 μ).bind fun z1 =>
  if z1.1 = 0 then
    some ((-1), z1.2)
  else
    (isO z1.2 11 l0 (f_X11_saveState l0 z1.2)).bind fun z10 =>
    (gR z10 11 l0 0).bind fun x14 =>
    (isO z10 7 x14 (f_X7_trainAt x14 l1 z10)).bind fun z18 =>
    (gI z18.2 10 z18.1 1).bind fun x23 =>
    (pI z18.2 10 z18.1 1 0).bind fun m29 =>
    some (x23, m29)
-- PulseRemote$Collision.lay(LPulseRemote$Train;LPulseRemote$Train;)V
noncomputable def f_X1_lay (l0 : Nat) (l1 : Nat) (l2 : Nat) (μ : MS) : Option (MS) :=
  (gR μ 1 l0 0).bind fun x1 =>
  (isO μ 10 x1 (f_X10_copyFrom x1 l1 μ)).bind fun z5 =>
  (gR z5 1 l0 1).bind fun x9 =>
  (isO z5 10 x9 (f_X10_copyFrom x9 l2 z5)).bind fun z13 =>
  some z13
-- PulseRemote$Collision.takeMark()V
noncomputable def f_X1_takeMark_139 (l0 : Nat) (l2 : Int32) (μ : MS) : Option (MS) :=
  if l2 = 0 then
    some μ
  else
    (gI μ 1 l0 5).bind fun x145 =>
    (pI μ 1 l0 7 x145).bind fun m148 =>
    (gI m148 1 l0 7).bind fun x153 =>
    (gR m148 1 l0 1).bind fun x157 =>
    (gI m148 1 l0 4).bind fun x161 =>
    (isO m148 10 x157 (f_X10_at x157 x161 m148)).bind fun z164 =>
    (pI z164.2 1 l0 8 (x153 + z164.1)).bind fun m168 =>
    (gI m168 1 l0 8).bind fun x173 =>
    (gR m168 1 l0 1).bind fun x177 =>
    (gI m168 1 l0 4).bind fun x181 =>
    (isO m168 10 x177 (f_X10_at x177 (x181 + 1) m168)).bind fun z186 =>
    (pI z186.2 1 l0 5 (x173 + z186.1)).bind fun m190 =>
    (gI m190 1 l0 4).bind fun x195 =>
    (pI m190 1 l0 4 (x195 + 2)).bind fun m200 =>
    some m200
noncomputable def f_X1_takeMark_76 (l0 : Nat) (μ : MS) : Option (MS) :=
  (gI μ 1 l0 3).bind fun x78 =>
  (pI μ 1 l0 7 x78).bind fun m81 =>
  (gI m81 1 l0 7).bind fun x86 =>
  (gR m81 1 l0 0).bind fun x90 =>
  (gI m81 1 l0 2).bind fun x94 =>
  (isO m81 10 x90 (f_X10_at x90 x94 m81)).bind fun z97 =>
  (pI z97.2 1 l0 8 (x86 + z97.1)).bind fun m101 =>
  (gI m101 1 l0 8).bind fun x106 =>
  (gR m101 1 l0 0).bind fun x110 =>
  (gI m101 1 l0 2).bind fun x114 =>
  (isO m101 10 x110 (f_X10_at x110 (x114 + 1) m101)).bind fun z119 =>
  (pI z119.2 1 l0 3 (x106 + z119.1)).bind fun m123 =>
  (gI m123 1 l0 2).bind fun x128 =>
  (pI m123 1 l0 2 (x128 + 2)).bind fun m133 =>
  some m133
noncomputable def f_X1_takeMark_54 (l0 : Nat) (l1 : Int32) (l2 : Int32) (s0 : Int32) (s1 : Nat) (μ : MS) : Option (MS) :=
  (pZ μ 1 s1 6 s0).bind fun m54 =>
  if l1 = 0 then
    f_X1_takeMark_139 l0 l2 m54
  else
    if l2 = 0 then
      f_X1_takeMark_76 l0 m54
    else
      (gI m54 1 l0 3).bind fun x66 =>
      (gI m54 1 l0 5).bind fun x70 =>
      if x70 < x66 then
        f_X1_takeMark_139 l0 l2 m54
      else
        f_X1_takeMark_76 l0 m54
noncomputable def f_X1_takeMark_49 (l0 : Nat) (l1 : Int32) (l2 : Int32) (s0 : Nat) (μ : MS) : Option (MS) :=
  f_X1_takeMark_54 l0 l1 l2 1 s0 μ
noncomputable def f_X1_takeMark_39 (l0 : Nat) (l1 : Int32) (s0 : Int32) (μ : MS) : Option (MS) :=
  if l1 = 0 then
    if s0 = 0 then
      f_X1_takeMark_54 l0 l1 s0 0 l0 μ
    else
      f_X1_takeMark_49 l0 l1 s0 l0 μ
  else
    f_X1_takeMark_49 l0 l1 s0 l0 μ
noncomputable def f_X1_takeMark_19 (l0 : Nat) (s0 : Int32) (μ : MS) : Option (MS) :=
  (gI μ 1 l0 4).bind fun x21 =>
  (gR μ 1 l0 1).bind fun x25 =>
  (gI μ 10 x25 1).bind fun x28 =>
  if x28 ≤ x21 then
    f_X1_takeMark_39 l0 s0 0 μ
  else
    f_X1_takeMark_39 l0 s0 1 μ
noncomputable def f_X1_takeMark (l0 : Nat) (μ : MS) : Option (MS) :=
  (gI μ 1 l0 2).bind fun x1 =>
  (gR μ 1 l0 0).bind fun x5 =>
  (gI μ 10 x5 1).bind fun x8 =>
  if x8 ≤ x1 then
    f_X1_takeMark_19 l0 0 μ
  else
    f_X1_takeMark_19 l0 1 μ
-- PulseRemote$Collision.begin(I)V
noncomputable def f_X1_begin (l0 : Nat) (l1 : Int32) (μ : MS) : Option (MS) :=
  (pI μ 1 l0 2 0).bind fun m2 =>
  (pI m2 1 l0 3 0).bind fun m7 =>
  (pI m7 1 l0 4 0).bind fun m12 =>
  (pI m12 1 l0 5 l1).bind fun m17 =>
  (pI m17 1 l0 9 0).bind fun m22 =>
  (isO m22 1 l0 (f_X1_takeMark l0 m22)).bind fun z26 =>
  some z26
-- PulseRemote$Collision.nextDuration()I
noncomputable def f_X1_nextDuration_103 (l1 : Int32) (l2 : Int32) (s0 : Int32) (s1 : Nat) (μ : MS) : Option ((Int32 × MS)) :=
  (pI μ 1 s1 9 s0).bind fun m103 =>
  some (l2 - l1, m103)
noncomputable def f_X1_nextDuration_85 (l0 : Nat) (l1 : Int32) (l2 : Int32) (μ : MS) : Option ((Int32 × MS)) :=
  (gI μ 1 l0 6).bind fun x87 =>
  if x87 = 0 then
    f_X1_nextDuration_103 l1 l2 0 l0 μ
  else
    (gI μ 1 l0 7).bind fun x94 =>
    f_X1_nextDuration_103 l1 l2 (x94 - l2) l0 μ
noncomputable def f_X1_nextDuration_44_b (l0 : Nat) (l1 : Int32) (l2 : Int32) (l3 : Int32) (μ : MS) : Option (((Nat × Int32 × Int32 × Int32 × MS) ⊕ (Int32 × MS))) :=
  if 200 ≤ l3 then
    xr (f_X1_nextDuration_85 l0 l1 l2 μ)
  else
    (gI μ 1 l0 6).bind fun x52 =>
    if x52 = 0 then
      xr (f_X1_nextDuration_85 l0 l1 l2 μ)
    else
      (gI μ 1 l0 7).bind fun x59 =>
      if l2 < x59 then
        xr (f_X1_nextDuration_85 l0 l1 l2 μ)
      else
        (gI μ 1 l0 8).bind fun x68 =>
        (some (mxI l2 x68)).bind fun v74 =>
        (isO μ 1 l0 (f_X1_takeMark l0 μ)).bind fun z76 =>
        (some (l3 + 1)).bind fun v79 =>
        some (.inl (l0, l1, v74, v79, z76))
noncomputable def f_X1_nextDuration_44 (l0 : Nat) (l1 : Int32) (l2 : Int32) (l3 : Int32) (μ : MS) : Option ((Int32 × MS)) := lp (fun s : Nat × Int32 × Int32 × Int32 × MS => f_X1_nextDuration_44_b s.1 s.2.1 s.2.2.1 s.2.2.2.1 s.2.2.2.2) (l0, l1, l2, l3, μ)
noncomputable def f_X1_nextDuration (l0 : Nat) (μ : MS) : Option ((Int32 × MS)) :=
  (gI μ 1 l0 9).bind fun x1 =>
  if x1 ≤ 0 then
    (gI μ 1 l0 6).bind fun x20 =>
    if x20 = 0 then
      some (0, μ)
    else
      (gI μ 1 l0 7).bind fun x29 =>
      (gI μ 1 l0 8).bind fun x34 =>
      (isO μ 1 l0 (f_X1_takeMark l0 μ)).bind fun z39 =>
      f_X1_nextDuration_44 l0 x29 x34 0 z39
  else
    (gI μ 1 l0 9).bind fun x8 =>
    (pI μ 1 l0 9 0).bind fun m14 =>
    some (x8, m14)
-- PulseRemote$Collision.writeTo(LPulseRemote$Train;)Z
noncomputable def f_X1_writeTo_39 (l2 : Int32) (μ : MS) : Option ((Int32 × MS)) :=
  if l2 = 0 then
    some (1, μ)
  else
    some (0, μ)
noncomputable def f_X1_writeTo_12_b (l0 : Nat) (l1 : Nat) (l2 : Int32) (l3 : Int32) (μ : MS) : Option (((Nat × Nat × Int32 × Int32 × MS) ⊕ (Int32 × MS))) :=
  if 200 ≤ l3 then
    xr (f_X1_writeTo_39 l2 μ)
  else
    if l2 ≤ 0 then
      xr (f_X1_writeTo_39 l2 μ)
    else
      (isO μ 10 l1 (f_X10_put l1 l2 μ)).bind fun z25 =>
      (isO z25 1 l0 (f_X1_nextDuration l0 z25)).bind fun z29 =>
      (some (l3 + 1)).bind fun v33 =>
      some (.inl (l0, l1, z29.1, v33, z29.2))
noncomputable def f_X1_writeTo_12 (l0 : Nat) (l1 : Nat) (l2 : Int32) (l3 : Int32) (μ : MS) : Option ((Int32 × MS)) := lp (fun s : Nat × Nat × Int32 × Int32 × MS => f_X1_writeTo_12_b s.1 s.2.1 s.2.2.1 s.2.2.2.1 s.2.2.2.2) (l0, l1, l2, l3, μ)
noncomputable def f_X1_writeTo (l0 : Nat) (l1 : Nat) (μ : MS) : Option ((Int32 × MS)) :=
  (pI μ 10 l1 1 0).bind fun m2 =>
  (isO m2 1 l0 (f_X1_nextDuration l0 m2)).bind fun z6 =>
  f_X1_writeTo_12 l0 l1 z6.1 0 z6.2
-- PulseRemote$Train.longest()I
noncomputable def f_X10_longest_28 (l1 : Int32) (μ : MS) : Option ((Int32 × MS)) :=
  some (l1, μ)
noncomputable def f_X10_longest_4_b (l0 : Nat) (l1 : Int32) (l2 : Int32) (μ : MS) : Option (((Nat × Int32 × Int32 × MS) ⊕ (Int32 × MS))) :=
  (gI μ 10 l0 1).bind fun x6 =>
  if x6 ≤ l2 then
    xr (f_X10_longest_28 l1 μ)
  else
    (isO μ 10 l0 (f_X10_at l0 l2 μ)).bind fun z15 =>
    (some (mxI l1 z15.1)).bind fun v21 =>
    (some (l2 + 1)).bind fun v22 =>
    some (.inl (l0, v21, v22, z15.2))
noncomputable def f_X10_longest_4 (l0 : Nat) (l1 : Int32) (l2 : Int32) (μ : MS) : Option ((Int32 × MS)) := lp (fun s : Nat × Int32 × Int32 × MS => f_X10_longest_4_b s.1 s.2.1 s.2.2.1 s.2.2.2) (l0, l1, l2, μ)
noncomputable def f_X10_longest (l0 : Nat) (μ : MS) : Option ((Int32 × MS)) :=
  f_X10_longest_4 l0 0 0 μ
-- PulseRemote.overlay(III)I
noncomputable def f_X11_overlay (l0 : Nat) (l1 : Int32) (l2 : Int32) (l3 : Int32) (μ : MS) : Option ((Int32 × MS)) :=
  (f_X11_isSlot l1 μ).bind fun z1 =>
  if z1.1 = 0 then
    some ((-1), z1.2)
  else
    (f_X11_isSlot l2 z1.2).bind fun z8 =>
    if z8.1 = 0 then
      some ((-1), z8.2)
    else
      if l1 = l2 then
        some ((-1), z8.2)
      else
        (f_X11_inRange l3 0 60000 z8.2).bind fun z23 =>
        if z23.1 = 0 then
          some ((-1), z23.2)
        else
          (gR z23.2 11 l0 0).bind fun x32 =>
          (isO z23.2 7 x32 (f_X7_trainAt x32 l1 z23.2)).bind fun z36 =>
          (gR z36.2 11 l0 0).bind fun x42 =>
          (isO z36.2 7 x42 (f_X7_trainAt x42 l2 z36.2)).bind fun z46 =>
          (isO z46.2 10 z36.1 (f_X10_endsWithMark z36.1 z46.2)).bind fun z53 =>
          if z53.1 = 0 then
            some ((-2), z53.2)
          else
            (isO z53.2 10 z46.1 (f_X10_endsWithMark z46.1 z53.2)).bind fun z61 =>
            if z61.1 = 0 then
              some ((-2), z61.2)
            else
              (gR z61.2 11 l0 11).bind fun x71 =>
              (isO z61.2 1 x71 (f_X1_lay x71 z36.1 z46.1 z61.2)).bind fun z78 =>
              (gR z78 11 l0 11).bind fun x82 =>
              (isO z78 1 x82 (f_X1_begin x82 l3 z78)).bind fun z86 =>
              (gR z86 11 l0 11).bind fun x90 =>
              (gR z86 11 l0 5).bind fun x94 =>
              (isO z86 1 x90 (f_X1_writeTo x90 x94 z86)).bind fun z97 =>
              if z97.1 = 0 then
                some ((-3), z97.2)
              else
                (gR z97.2 11 l0 5).bind fun x104 =>
                (isO z97.2 10 x104 (f_X10_longest x104 z97.2)).bind fun z107 =>
                if z107.1 ≤ 60000 then
                  (isO z107.2 11 l0 (f_X11_saveState l0 z107.2)).bind fun z119 =>
                  (gR z119 11 l0 5).bind fun x125 =>
                  (isO z119 10 z36.1 (f_X10_copyFrom z36.1 x125 z119)).bind fun z128 =>
                  (gI z128 10 z36.1 1).bind fun x133 =>
                  some (x133, z128)
                else
                  some ((-3), z107.2)
-- PulseRemote$Train.stretch(I)I
noncomputable def f_X10_stretch_102 (l2 : Int32) (μ : MS) : Option ((Int32 × MS)) :=
  some (l2, μ)
noncomputable def f_X10_stretch_88 (l0 : Nat) (l1 : Int32) (l2 : Int32) (l3 : Int32) (l5 : Int32) (μ : MS) : Option (((Nat × Int32 × Int32 × Int32 × MS) ⊕ (Int32 × MS))) :=
  (gR μ 10 l0 0).bind fun x89 =>
  (sI μ 15 x89 l3 l5).bind fun m95 =>
  (some (l3 + 1)).bind fun v96 =>
  some (.inl (l0, l1, l2, v96, m95))
noncomputable def f_X10_stretch_42 (l0 : Nat) (l1 : Int32) (l2 : Int32) (l3 : Int32) (s0 : Int32) (μ : MS) : Option (((Nat × Int32 × Int32 × Int32 × MS) ⊕ (Int32 × MS))) :=
  (gR μ 10 l0 0).bind fun x45 =>
  (aI μ 15 x45 l3).bind fun x49 =>
  (dvI (x49 * (100 + s0)) 100).bind fun v58 =>
  (some (mnI (mxI v58 1) 60000)).bind fun v72 =>
  (gR μ 10 l0 0).bind fun x77 =>
  (aI μ 15 x77 l3).bind fun x81 =>
  if v72 = x81 then
    f_X10_stretch_88 l0 l1 l2 l3 v72 μ
  else
    (some (l2 + 1)).bind fun v85 =>
    f_X10_stretch_88 l0 l1 v85 l3 v72 μ
noncomputable def f_X10_stretch_4_b (l0 : Nat) (l1 : Int32) (l2 : Int32) (l3 : Int32) (μ : MS) : Option (((Nat × Int32 × Int32 × Int32 × MS) ⊕ (Int32 × MS))) :=
  (gI μ 10 l0 1).bind fun x6 =>
  if x6 ≤ l3 then
    xr (f_X10_stretch_102 l2 μ)
  else
    if 200 ≤ l3 then
      xr (f_X10_stretch_102 l2 μ)
    else
      (rmI l3 3).bind fun v21 =>
      if v21 = 0 then
        f_X10_stretch_42 l0 l1 l2 l3 (-l1) μ
      else
        (rmI l3 3).bind fun v32 =>
        if v32 = 1 then
          f_X10_stretch_42 l0 l1 l2 l3 0 μ
        else
          f_X10_stretch_42 l0 l1 l2 l3 l1 μ
noncomputable def f_X10_stretch_4 (l0 : Nat) (l1 : Int32) (l2 : Int32) (l3 : Int32) (μ : MS) : Option ((Int32 × MS)) := lp (fun s : Nat × Int32 × Int32 × Int32 × MS => f_X10_stretch_4_b s.1 s.2.1 s.2.2.1 s.2.2.2.1 s.2.2.2.2) (l0, l1, l2, l3, μ)
noncomputable def f_X10_stretch (l0 : Nat) (l1 : Int32) (μ : MS) : Option ((Int32 × MS)) :=
  f_X10_stretch_4 l0 l1 0 0 μ
-- PulseRemote.distort(III)I
noncomputable def f_X11_distort_50 (s0 : Int32) (s1 : Nat) (μ : MS) : Option ((Int32 × MS)) :=
  (isO μ 10 s1 (f_X10_stretch s1 s0 μ)).bind fun z50 =>
  some (z50.1, z50.2)
noncomputable def f_X11_distort (l0 : Nat) (l1 : Int32) (l2 : Int32) (l3 : Int32) (μ : MS) : Option ((Int32 × MS)) :=
  (f_X11_isSlot l1 μ).bind fun z1 =>
  if z1.1 = 0 then
    some ((-1), z1.2)
  else
    (f_X11_inRange l2 0 30 z1.2).bind fun z11 =>
    if z11.1 = 0 then
      some ((-1), z11.2)
    else
      (f_X11_inRange l3 0 1 z11.2).bind fun z20 =>
      if z20.1 = 0 then
        some ((-1), z20.2)
      else
        (isO z20.2 11 l0 (f_X11_saveState l0 z20.2)).bind fun z29 =>
        (gR z29 11 l0 0).bind fun x33 =>
        (isO z29 7 x33 (f_X7_trainAt x33 l1 z29)).bind fun z37 =>
        if l3 = 0 then
          f_X11_distort_50 l2 z37.1 z37.2
        else
          f_X11_distort_50 (-l2) z37.1 z37.2
-- PulseRemote.duration(II)I
noncomputable def f_X11_duration (l0 : Nat) (l1 : Int32) (l2 : Int32) (μ : MS) : Option ((Int32 × MS)) :=
  (f_X11_isSlot l1 μ).bind fun z1 =>
  if z1.1 = 0 then
    some ((-1), z1.2)
  else
    if 0 ≤ l2 then
      (gR z1.2 11 l0 0).bind fun x14 =>
      (isO z1.2 7 x14 (f_X7_trainAt x14 l1 z1.2)).bind fun z18 =>
      (gI z18.2 10 z18.1 1).bind fun x24 =>
      if x24 ≤ l2 then
        some ((-9), z18.2)
      else
        (isO z18.2 10 z18.1 (f_X10_at z18.1 l2 z18.2)).bind fun z32 =>
        some (z32.1, z32.2)
    else
      some ((-1), z1.2)
-- PulseRemote.length(I)I
noncomputable def f_X11_length (l0 : Nat) (l1 : Int32) (μ : MS) : Option ((Int32 × MS)) :=
  (f_X11_isSlot l1 μ).bind fun z1 =>
  if z1.1 = 0 then
    some ((-1), z1.2)
  else
    (gR z1.2 11 l0 0).bind fun x8 =>
    (isO z1.2 7 x8 (f_X7_trainAt x8 l1 z1.2)).bind fun z12 =>
    (gI z12.2 10 z12.1 1).bind fun x15 =>
    some (x15, z12.2)
-- PulseRemote.frameCount(I)I
noncomputable def f_X11_frameCount (l0 : Nat) (l1 : Int32) (μ : MS) : Option ((Int32 × MS)) :=
  (f_X11_isSlot l1 μ).bind fun z1 =>
  if z1.1 = 0 then
    some ((-1), z1.2)
  else
    (gR z1.2 11 l0 7).bind fun x10 =>
    (gR z1.2 11 l0 0).bind fun x14 =>
    (isO z1.2 7 x14 (f_X7_trainAt x14 l1 z1.2)).bind fun z18 =>
    (gR z18.2 11 l0 0).bind fun x22 =>
    (gI z18.2 7 x22 2).bind fun x25 =>
    (isO z18.2 3 x10 (f_X3_split x10 z18.1 x25 z18.2)).bind fun z28 =>
    (gR z28 11 l0 7).bind fun x32 =>
    (gI z28 3 x32 2).bind fun x35 =>
    some (x35, z28)
-- PulseRemote$Decoder.take(LPulseRemote$FrameList;I)Z
noncomputable def f_X2_take_48  (μ : MS) : Option ((Int32 × MS)) :=
  some (1, μ)
noncomputable def f_X2_take_22_b (l0 : Nat) (l1 : Nat) (l2 : Int32) (l3 : Int32) (μ : MS) : Option (((Nat × Nat × Int32 × Int32 × MS) ⊕ (Int32 × MS))) :=
  (gI μ 2 l0 3).bind fun x24 =>
  if x24 ≤ l3 then
    xr (f_X2_take_48 μ)
  else
    (gR μ 2 l0 2).bind fun x31 =>
    (isO μ 3 l1 (f_X3_durationAt l1 l2 l3 μ)).bind fun z38 =>
    (sI z38.2 15 x31 l3 z38.1).bind fun m41 =>
    (some (l3 + 1)).bind fun v42 =>
    some (.inl (l0, l1, l2, v42, m41))
noncomputable def f_X2_take_22 (l0 : Nat) (l1 : Nat) (l2 : Int32) (l3 : Int32) (μ : MS) : Option ((Int32 × MS)) := lp (fun s : Nat × Nat × Int32 × Int32 × MS => f_X2_take_22_b s.1 s.2.1 s.2.2.1 s.2.2.2.1 s.2.2.2.2) (l0, l1, l2, l3, μ)
noncomputable def f_X2_take (l0 : Nat) (l1 : Nat) (l2 : Int32) (μ : MS) : Option ((Int32 × MS)) :=
  (isO μ 3 l1 (f_X3_sizeOf l1 l2 μ)).bind fun z3 =>
  (pI z3.2 2 l0 3 z3.1).bind fun m6 =>
  (gI m6 2 l0 3).bind fun x10 =>
  if x10 ≤ 35 then
    f_X2_take_22 l0 l1 l2 0 m6
  else
    some (0, m6)
-- PulseRemote.matches(III)Z
noncomputable def f_X11_matches_14 (l1 : Int32) (l2 : Int32) (s0 : Int32) (μ : MS) : Option ((Int32 × MS)) :=
  if (l1 * l2) < (100 * s0) then
    some (0, μ)
  else
    some (1, μ)
noncomputable def f_X11_matches (l0 : Int32) (l1 : Int32) (l2 : Int32) (μ : MS) : Option ((Int32 × MS)) :=
  if l0 ≤ l1 then
    f_X11_matches_14 l1 l2 (l1 - l0) μ
  else
    f_X11_matches_14 l1 l2 (l0 - l1) μ
-- PulseRemote$Decoder.fits(II)Z
noncomputable def f_X2_fits (l0 : Nat) (l1 : Int32) (l2 : Int32) (μ : MS) : Option ((Int32 × MS)) :=
  if l1 < 0 then
    some (0, μ)
  else
    (gI μ 2 l0 3).bind fun x6 =>
    if x6 ≤ l1 then
      some (0, μ)
    else
      if 35 ≤ l1 then
        some (0, μ)
      else
        (gR μ 2 l0 2).bind fun x19 =>
        (aI μ 15 x19 l1).bind fun x23 =>
        (gI μ 2 l0 4).bind fun x26 =>
        (f_X11_matches x23 l2 x26 μ).bind fun z29 =>
        if z29.1 = 0 then
          some (0, z29.2)
        else
          some (1, z29.2)
-- PulseRemote$Decoder.placesOf(I)J
noncomputable def f_X2_placesOf_37 (l2 : Int64) (μ : MS) : Option ((Int64 × MS)) :=
  some (l2, μ)
noncomputable def f_X2_placesOf_31 (l0 : Nat) (l1 : Int32) (l2 : Int64) (l4 : Int32) (μ : MS) : Option (((Nat × Int32 × Int64 × Int32 × MS) ⊕ (Int64 × MS))) :=
  (some (l4 + 1)).bind fun v31 =>
  some (.inl (l0, l1, l2, v31, μ))
noncomputable def f_X2_placesOf_5_b (l0 : Nat) (l1 : Int32) (l2 : Int64) (l4 : Int32) (μ : MS) : Option (((Nat × Int32 × Int64 × Int32 × MS) ⊕ (Int64 × MS))) :=
  (gI μ 2 l0 3).bind fun x8 =>
  if x8 ≤ l4 then
    xr (f_X2_placesOf_37 l2 μ)
  else
    (isO μ 2 l0 (f_X2_fits l0 l4 l1 μ)).bind fun z18 =>
    if z18.1 = 0 then
      f_X2_placesOf_31 l0 l1 l2 l4 z18.2
    else
      (some (l2 ||| (shl 1 l4))).bind fun v30 =>
      f_X2_placesOf_31 l0 l1 v30 l4 z18.2
noncomputable def f_X2_placesOf_5 (l0 : Nat) (l1 : Int32) (l2 : Int64) (l4 : Int32) (μ : MS) : Option ((Int64 × MS)) := lp (fun s : Nat × Int32 × Int64 × Int32 × MS => f_X2_placesOf_5_b s.1 s.2.1 s.2.2.1 s.2.2.2.1 s.2.2.2.2) (l0, l1, l2, l4, μ)
noncomputable def f_X2_placesOf (l0 : Nat) (l1 : Int32) (μ : MS) : Option ((Int64 × MS)) :=
  f_X2_placesOf_5 l0 l1 0 2 μ
-- PulseRemote$Decoder.isIn(JI)Z
noncomputable def f_X2_isIn (l0 : Int64) (l2 : Int32) (μ : MS) : Option ((Int32 × MS)) :=
  if (lg_cmp ((usr l0 l2) &&& 1) 0) = 0 then
    some (0, μ)
  else
    some (1, μ)
-- PulseRemote$Decoder.restOfPhaseCode(LPulseRemote$Protocol;IJJ)I
noncomputable def f_X2_restOfPhaseCode_120 (l8 : Int32) (μ : MS) : Option ((Int32 × MS)) :=
  some (l8, μ)
noncomputable def f_X2_restOfPhaseCode_107 (l0 : Nat) (l1 : Nat) (l3 : Int64) (l5 : Int64) (l7 : Int32) (l8 : Int32) (l9 : Int32) (l11 : Int32) (μ : MS) : Option (((Nat × Nat × Int64 × Int64 × Int32 × Int32 × Int32 × MS) ⊕ (Int32 × MS))) :=
  (some (l7 + l11)).bind fun v112 =>
  (some (l9 + 1)).bind fun v114 =>
  some (.inl (l0, l1, l3, l5, v112, l8, v114, μ))
noncomputable def f_X2_restOfPhaseCode_90 (l0 : Nat) (l1 : Nat) (l3 : Int64) (l5 : Int64) (l7 : Int32) (l8 : Int32) (l9 : Int32) (l11 : Int32) (μ : MS) : Option (((Nat × Nat × Int64 × Int64 × Int32 × Int32 × Int32 × MS) ⊕ (Int32 × MS))) :=
  (isO μ 6 l1 (f_X6_maskAt l1 l9 μ)).bind fun z95 =>
  (some (l8 ||| z95.1)).bind fun v99 =>
  (some (3 - l11)).bind fun v105 =>
  f_X2_restOfPhaseCode_107 l0 l1 l3 l5 l7 v99 l9 v105 z95.2
noncomputable def f_X2_restOfPhaseCode_62 (l0 : Nat) (l1 : Nat) (l3 : Int64) (l5 : Int64) (l7 : Int32) (l8 : Int32) (l9 : Int32) (l11 : Int32) (s0 : Int64) (μ : MS) : Option (((Nat × Nat × Int64 × Int64 × Int32 × Int32 × Int32 × MS) ⊕ (Int32 × MS))) :=
  (f_X2_isIn s0 l7 μ).bind fun z64 =>
  if z64.1 = 0 then
    f_X2_restOfPhaseCode_90 l0 l1 l3 l5 l7 l8 l9 l11 z64.2
  else
    (gR z64.2 2 l0 5).bind fun x71 =>
    (aL z64.2 x71 (l9 + 1)).bind fun x78 =>
    (f_X2_isIn x78 (l7 + l11) z64.2).bind fun z84 =>
    if z84.1 = 0 then
      f_X2_restOfPhaseCode_90 l0 l1 l3 l5 l7 l8 l9 l11 z84.2
    else
      f_X2_restOfPhaseCode_107 l0 l1 l3 l5 l7 l8 l9 l11 z84.2
noncomputable def f_X2_restOfPhaseCode_49 (l0 : Nat) (l1 : Nat) (l3 : Int64) (l5 : Int64) (l7 : Int32) (l8 : Int32) (l9 : Int32) (l10 : Int32) (s0 : Int32) (μ : MS) : Option (((Nat × Nat × Int64 × Int64 × Int32 × Int32 × Int32 × MS) ⊕ (Int32 × MS))) :=
  if l10 = 0 then
    f_X2_restOfPhaseCode_62 l0 l1 l3 l5 l7 l8 l9 s0 l5 μ
  else
    f_X2_restOfPhaseCode_62 l0 l1 l3 l5 l7 l8 l9 s0 l3 μ
noncomputable def f_X2_restOfPhaseCode_37 (l0 : Nat) (l1 : Nat) (l3 : Int64) (l5 : Int64) (l7 : Int32) (l8 : Int32) (l9 : Int32) (s0 : Int32) (μ : MS) : Option (((Nat × Nat × Int64 × Int64 × Int32 × Int32 × Int32 × MS) ⊕ (Int32 × MS))) :=
  if s0 = 0 then
    f_X2_restOfPhaseCode_49 l0 l1 l3 l5 l7 l8 l9 s0 1 μ
  else
    f_X2_restOfPhaseCode_49 l0 l1 l3 l5 l7 l8 l9 s0 2 μ
noncomputable def f_X2_restOfPhaseCode_9_b (l0 : Nat) (l1 : Nat) (l3 : Int64) (l5 : Int64) (l7 : Int32) (l8 : Int32) (l9 : Int32) (μ : MS) : Option (((Nat × Nat × Int64 × Int64 × Int32 × Int32 × Int32 × MS) ⊕ (Int32 × MS))) :=
  (gI μ 6 l1 6).bind fun x12 =>
  if x12 ≤ l9 then
    xr (f_X2_restOfPhaseCode_120 l8 μ)
  else
    if 16 ≤ l9 then
      xr (f_X2_restOfPhaseCode_120 l8 μ)
    else
      (rmI l7 2).bind fun v28 =>
      if v28 = 0 then
        f_X2_restOfPhaseCode_37 l0 l1 l3 l5 l7 l8 l9 1 μ
      else
        f_X2_restOfPhaseCode_37 l0 l1 l3 l5 l7 l8 l9 0 μ
noncomputable def f_X2_restOfPhaseCode_9 (l0 : Nat) (l1 : Nat) (l3 : Int64) (l5 : Int64) (l7 : Int32) (l8 : Int32) (l9 : Int32) (μ : MS) : Option ((Int32 × MS)) := lp (fun s : Nat × Nat × Int64 × Int64 × Int32 × Int32 × Int32 × MS => f_X2_restOfPhaseCode_9_b s.1 s.2.1 s.2.2.1 s.2.2.2.1 s.2.2.2.2.1 s.2.2.2.2.2.1 s.2.2.2.2.2.2.1 s.2.2.2.2.2.2.2) (l0, l1, l3, l5, l7, l8, l9, μ)
noncomputable def f_X2_restOfPhaseCode (l0 : Nat) (l1 : Nat) (l2 : Int32) (l3 : Int64) (l5 : Int64) (μ : MS) : Option ((Int32 × MS)) :=
  f_X2_restOfPhaseCode_9 l0 l1 l3 l5 l2 0 1 μ
-- PulseRemote$Decoder.phaseCode(LPulseRemote$Protocol;)I
noncomputable def f_X2_phaseCode_175 (l0 : Nat) (l1 : Nat) (l2 : Int64) (l4 : Int64) (l6 : Int64) (μ : MS) : Option ((Int32 × MS)) :=
  (gI μ 6 l1 2).bind fun x178 =>
  (isO μ 2 l0 (f_X2_fits l0 1 x178 μ)).bind fun z181 =>
  if z181.1 = 0 then
    some ((-9), z181.2)
  else
    (f_X2_isIn l2 2 z181.2).bind fun z189 =>
    if z189.1 = 0 then
      some ((-9), z189.2)
    else
      (gR z189.2 2 l0 5).bind fun x196 =>
      (aL z189.2 x196 1).bind fun x200 =>
      (f_X2_isIn x200 3 z189.2).bind fun z202 =>
      if z202.1 = 0 then
        some ((-9), z202.2)
      else
        (isO z202.2 6 l1 (f_X6_maskAt l1 0 z202.2)).bind fun z210 =>
        (isO z210.2 2 l0 (f_X2_restOfPhaseCode l0 l1 3 l6 l4 z210.2)).bind fun z220 =>
        some (z210.1 ||| z220.1, z220.2)
noncomputable def f_X2_phaseCode_134 (l0 : Nat) (l1 : Nat) (l2 : Int64) (l4 : Int64) (l6 : Int64) (μ : MS) : Option ((Int32 × MS)) :=
  (gI μ 6 l1 2).bind fun x137 =>
  (gI μ 6 l1 3).bind fun x141 =>
  (isO μ 2 l0 (f_X2_fits l0 1 (x137 + x141) μ)).bind fun z145 =>
  if z145.1 = 0 then
    f_X2_phaseCode_175 l0 l1 l2 l4 l6 z145.2
  else
    (gR z145.2 2 l0 5).bind fun x152 =>
    (aL z145.2 x152 1).bind fun x156 =>
    (f_X2_isIn x156 2 z145.2).bind fun z158 =>
    if z158.1 = 0 then
      f_X2_phaseCode_175 l0 l1 l2 l4 l6 z158.2
    else
      (isO z158.2 2 l0 (f_X2_restOfPhaseCode l0 l1 2 l6 l4 z158.2)).bind fun z171 =>
      some (z171.1, z171.2)
noncomputable def f_X2_phaseCode_96_b (l0 : Nat) (l1 : Nat) (l2 : Int64) (l4 : Int64) (l6 : Int64) (l8 : Int64) (l10 : Int32) (μ : MS) : Option (((Nat × Nat × Int64 × Int64 × Int64 × Int64 × Int32 × MS) ⊕ (Int32 × MS))) :=
  if l10 < 1 then
    xr (f_X2_phaseCode_134 l0 l1 l2 l4 l6 μ)
  else
    (gR μ 2 l0 5).bind fun x103 =>
    (sL μ x103 l10 l8).bind fun m110 =>
    (some (((usr l8 1) &&& l4) ||| ((usr l8 2) &&& l6))).bind fun v126 =>
    (some (l10 + (-1))).bind fun v128 =>
    some (.inl (l0, l1, l2, l4, l6, v126, v128, m110))
noncomputable def f_X2_phaseCode_96 (l0 : Nat) (l1 : Nat) (l2 : Int64) (l4 : Int64) (l6 : Int64) (l8 : Int64) (l10 : Int32) (μ : MS) : Option ((Int32 × MS)) := lp (fun s : Nat × Nat × Int64 × Int64 × Int64 × Int64 × Int32 × MS => f_X2_phaseCode_96_b s.1 s.2.1 s.2.2.1 s.2.2.2.1 s.2.2.2.2.1 s.2.2.2.2.2.1 s.2.2.2.2.2.2.1 s.2.2.2.2.2.2.2) (l0, l1, l2, l4, l6, l8, l10, μ)
noncomputable def f_X2_phaseCode (l0 : Nat) (l1 : Nat) (μ : MS) : Option ((Int32 × MS)) :=
  (gI μ 2 l0 3).bind fun x1 =>
  if x1 < 3 then
    some ((-9), μ)
  else
    (gI μ 2 l0 3).bind fun x9 =>
    (gI μ 6 l1 6).bind fun x14 =>
    if ((2 * x14) + 1) < x9 then
      some ((-9), μ)
    else
      (gI μ 6 l1 1).bind fun x26 =>
      (isO μ 2 l0 (f_X2_fits l0 0 x26 μ)).bind fun z29 =>
      if z29.1 = 0 then
        some ((-9), z29.2)
      else
        (gI z29.2 6 l1 3).bind fun x40 =>
        (isO z29.2 2 l0 (f_X2_placesOf l0 x40 z29.2)).bind fun z43 =>
        (gI z43.2 6 l1 3).bind fun x50 =>
        (isO z43.2 2 l0 (f_X2_placesOf l0 (2 * x50) z43.2)).bind fun z54 =>
        (some (z43.1 &&& (usr z43.1 1))).bind fun v64 =>
        (gI z54.2 2 l0 3).bind fun x69 =>
        (gI z54.2 2 l0 3).bind fun x78 =>
        (some ((z43.1 &&& (shl 1 (x69 - 1))) ||| (shl 1 x78))).bind fun v83 =>
        (gI z54.2 6 l1 6).bind fun x86 =>
        (some (mnI x86 16)).bind fun v94 =>
        f_X2_phaseCode_96 l0 l1 z43.1 z54.1 v64 v83 v94 z54.2
-- PulseRemote$Decoder.plainCode(LPulseRemote$Protocol;)I
noncomputable def f_X2_plainCode_159 (l4 : Int32) (μ : MS) : Option ((Int32 × MS)) :=
  some (l4, μ)
noncomputable def f_X2_plainCode_135  (μ : MS) : Option ((Int32 × MS)) :=
  some ((-9), μ)
noncomputable def f_X2_plainCode_153 (l0 : Nat) (l1 : Nat) (l3 : Int32) (l4 : Int32) (l5 : Int32) (μ : MS) : Option (((Nat × Nat × Int32 × Int32 × Int32 × MS) ⊕ (Int32 × MS))) :=
  (some (l5 + 1)).bind fun v153 =>
  some (.inl (l0, l1, l3, l4, v153, μ))
noncomputable def f_X2_plainCode_106  (μ : MS) : Option ((Int32 × MS)) :=
  some ((-9), μ)
noncomputable def f_X2_plainCode_76_b (l0 : Nat) (l1 : Nat) (l3 : Int32) (l4 : Int32) (l5 : Int32) (μ : MS) : Option (((Nat × Nat × Int32 × Int32 × Int32 × MS) ⊕ (Int32 × MS))) :=
  (gI μ 2 l0 3).bind fun x79 =>
  if x79 ≤ l5 then
    xr (f_X2_plainCode_159 l4 μ)
  else
    (rmI l5 2).bind fun v88 =>
    if v88 = l3 then
      (gI μ 6 l1 4).bind fun x113 =>
      (isO μ 2 l0 (f_X2_fits l0 l5 x113 μ)).bind fun z116 =>
      if z116.1 = 0 then
        (gI z116.2 6 l1 5).bind fun x126 =>
        (isO z116.2 2 l0 (f_X2_fits l0 l5 x126 z116.2)).bind fun z129 =>
        if z129.1 = 0 then
          xr (f_X2_plainCode_135 z129.2)
        else
          (dvI (l5 - 2) 2).bind fun v146 =>
          (isO z129.2 6 l1 (f_X6_maskAt l1 v146 z129.2)).bind fun z147 =>
          (some (l4 ||| z147.1)).bind fun v151 =>
          f_X2_plainCode_153 l0 l1 l3 v151 l5 z147.2
      else
        f_X2_plainCode_153 l0 l1 l3 l4 l5 z116.2
    else
      (gI μ 6 l1 3).bind fun x97 =>
      (isO μ 2 l0 (f_X2_fits l0 l5 x97 μ)).bind fun z100 =>
      if z100.1 = 0 then
        xr (f_X2_plainCode_106 z100.2)
      else
        f_X2_plainCode_153 l0 l1 l3 l4 l5 z100.2
noncomputable def f_X2_plainCode_76 (l0 : Nat) (l1 : Nat) (l3 : Int32) (l4 : Int32) (l5 : Int32) (μ : MS) : Option ((Int32 × MS)) := lp (fun s : Nat × Nat × Int32 × Int32 × Int32 × MS => f_X2_plainCode_76_b s.1 s.2.1 s.2.2.1 s.2.2.2.1 s.2.2.2.2.1 s.2.2.2.2.2) (l0, l1, l3, l4, l5, μ)
noncomputable def f_X2_plainCode_69 (l0 : Nat) (l1 : Nat) (s0 : Int32) (μ : MS) : Option ((Int32 × MS)) :=
  f_X2_plainCode_76 l0 l1 s0 0 2 μ
noncomputable def f_X2_plainCode_13 (l0 : Nat) (l1 : Nat) (s0 : Int32) (μ : MS) : Option ((Int32 × MS)) :=
  (gI μ 2 l0 3).bind fun x15 =>
  (gI μ 6 l1 6).bind fun x20 =>
  if x15 = ((2 * x20) + s0) then
    (gI μ 6 l1 1).bind fun x32 =>
    (isO μ 2 l0 (f_X2_fits l0 0 x32 μ)).bind fun z35 =>
    if z35.1 = 0 then
      some ((-9), z35.2)
    else
      (gI z35.2 6 l1 2).bind fun x44 =>
      (isO z35.2 2 l0 (f_X2_fits l0 1 x44 z35.2)).bind fun z47 =>
      if z47.1 = 0 then
        some ((-9), z47.2)
      else
        (gI z47.2 6 l1 0).bind fun x57 =>
        if x57 = 1 then
          f_X2_plainCode_69 l0 l1 0 z47.2
        else
          f_X2_plainCode_69 l0 l1 1 z47.2
  else
    some ((-9), μ)
noncomputable def f_X2_plainCode (l0 : Nat) (l1 : Nat) (μ : MS) : Option ((Int32 × MS)) :=
  (gI μ 6 l1 0).bind fun x1 =>
  if x1 = 1 then
    f_X2_plainCode_13 l0 l1 1 μ
  else
    f_X2_plainCode_13 l0 l1 3 μ
-- PulseRemote$Decoder.protocolOfShortFrame(LPulseRemote$Table;)I
noncomputable def f_X2_protocolOfShortFrame_78  (μ : MS) : Option ((Int32 × MS)) :=
  some ((-9), μ)
noncomputable def f_X2_protocolOfShortFrame_72 (l0 : Nat) (l1 : Nat) (l2 : Int32) (μ : MS) : Option (((Nat × Nat × Int32 × MS) ⊕ (Int32 × MS))) :=
  (some (l2 + 1)).bind fun v72 =>
  some (.inl (l0, l1, v72, μ))
noncomputable def f_X2_protocolOfShortFrame_70 (l2 : Int32) (μ : MS) : Option ((Int32 × MS)) :=
  some (l2, μ)
noncomputable def f_X2_protocolOfShortFrame_2_b (l0 : Nat) (l1 : Nat) (l2 : Int32) (μ : MS) : Option (((Nat × Nat × Int32 × MS) ⊕ (Int32 × MS))) :=
  (gI μ 8 l1 1).bind fun x4 =>
  if x4 ≤ l2 then
    xr (f_X2_protocolOfShortFrame_78 μ)
  else
    (isO μ 8 l1 (f_X8_protocolAt l1 l2 μ)).bind fun z12 =>
    (gI z12.2 6 z12.1 8).bind fun x17 =>
    if x17 = 1 then
      (gI z12.2 2 l0 3).bind fun x25 =>
      if x25 = 3 then
        (gI z12.2 6 z12.1 1).bind fun x35 =>
        (isO z12.2 2 l0 (f_X2_fits l0 0 x35 z12.2)).bind fun z38 =>
        if z38.1 = 0 then
          f_X2_protocolOfShortFrame_72 l0 l1 l2 z38.2
        else
          (gI z38.2 6 z12.1 2).bind fun x47 =>
          (dvI x47 2).bind fun v51 =>
          (isO z38.2 2 l0 (f_X2_fits l0 1 v51 z38.2)).bind fun z52 =>
          if z52.1 = 0 then
            f_X2_protocolOfShortFrame_72 l0 l1 l2 z52.2
          else
            (gI z52.2 6 z12.1 3).bind fun x61 =>
            (isO z52.2 2 l0 (f_X2_fits l0 2 x61 z52.2)).bind fun z64 =>
            if z64.1 = 0 then
              f_X2_protocolOfShortFrame_72 l0 l1 l2 z64.2
            else
              xr (f_X2_protocolOfShortFrame_70 l2 z64.2)
      else
        f_X2_protocolOfShortFrame_72 l0 l1 l2 z12.2
    else
      f_X2_protocolOfShortFrame_72 l0 l1 l2 z12.2
noncomputable def f_X2_protocolOfShortFrame_2 (l0 : Nat) (l1 : Nat) (l2 : Int32) (μ : MS) : Option ((Int32 × MS)) := lp (fun s : Nat × Nat × Int32 × MS => f_X2_protocolOfShortFrame_2_b s.1 s.2.1 s.2.2.1 s.2.2.2) (l0, l1, l2, μ)
noncomputable def f_X2_protocolOfShortFrame (l0 : Nat) (l1 : Nat) (μ : MS) : Option ((Int32 × MS)) :=
  f_X2_protocolOfShortFrame_2 l0 l1 0 μ
-- PulseRemote$Decoder.decode(LPulseRemote$Table;LPulseRemote$FrameList;II)V
noncomputable def f_X2_decode_98 (l0 : Nat) (l1 : Nat) (μ : MS) : Option (MS) :=
  (isO μ 2 l0 (f_X2_protocolOfShortFrame l0 l1 μ)).bind fun z101 =>
  (pI z101.2 2 l0 0 z101.1).bind fun m104 =>
  some m104
noncomputable def f_X2_decode_85 (l0 : Nat) (l5 : Int32) (μ : MS) : Option (MS) :=
  (pI μ 2 l0 0 l5).bind fun m88 =>
  some m88
noncomputable def f_X2_decode_73 (l0 : Nat) (l1 : Nat) (l5 : Int32) (s0 : Int32) (s1 : Nat) (μ : MS) : Option (((Nat × Nat × Int32 × MS) ⊕ MS)) :=
  (pI μ 2 s1 1 s0).bind fun m73 =>
  (gI m73 2 l0 1).bind fun x77 =>
  if x77 = ((-9)) then
    (some (l5 + 1)).bind fun v92 =>
    some (.inl (l0, l1, v92, m73))
  else
    xr (f_X2_decode_85 l0 l5 m73)
noncomputable def f_X2_decode_31_b (l0 : Nat) (l1 : Nat) (l5 : Int32) (μ : MS) : Option (((Nat × Nat × Int32 × MS) ⊕ MS)) :=
  (gI μ 8 l1 1).bind fun x34 =>
  if x34 ≤ l5 then
    xr (f_X2_decode_98 l0 l1 μ)
  else
    (isO μ 8 l1 (f_X8_protocolAt l1 l5 μ)).bind fun z43 =>
    (gI z43.2 6 z43.1 0).bind fun x51 =>
    if x51 = 2 then
      (isO z43.2 2 l0 (f_X2_phaseCode l0 z43.1 z43.2)).bind fun z61 =>
      f_X2_decode_73 l0 l1 l5 z61.1 l0 z61.2
    else
      (isO z43.2 2 l0 (f_X2_plainCode l0 z43.1 z43.2)).bind fun z70 =>
      f_X2_decode_73 l0 l1 l5 z70.1 l0 z70.2
noncomputable def f_X2_decode_31 (l0 : Nat) (l1 : Nat) (l5 : Int32) (μ : MS) : Option (MS) := lp (fun s : Nat × Nat × Int32 × MS => f_X2_decode_31_b s.1 s.2.1 s.2.2.1 s.2.2.2) (l0, l1, l5, μ)
noncomputable def f_X2_decode (l0 : Nat) (l1 : Nat) (l2 : Nat) (l3 : Int32) (l4 : Int32) (μ : MS) : Option (MS) :=
  (pI μ 2 l0 4 l4).bind fun m3 =>
  (pI m3 2 l0 0 ((-9))).bind fun m9 =>
  (pI m9 2 l0 1 ((-9))).bind fun m15 =>
  (isO m15 2 l0 (f_X2_take l0 l2 l3 m15)).bind fun z21 =>
  if z21.1 = 0 then
    some z21.2
  else
    f_X2_decode_31 l0 l1 0 z21.2
-- PulseRemote$Decoder.isDecoded()Z
noncomputable def f_X2_isDecoded (l0 : Nat) (μ : MS) : Option ((Int32 × MS)) :=
  (gI μ 2 l0 0).bind fun x1 =>
  if x1 = ((-9)) then
    some (0, μ)
  else
    some (1, μ)
-- PulseRemote$Decoder.isCode()Z
noncomputable def f_X2_isCode (l0 : Nat) (μ : MS) : Option ((Int32 × MS)) :=
  (gI μ 2 l0 1).bind fun x1 =>
  if x1 = ((-9)) then
    some (0, μ)
  else
    some (1, μ)
-- PulseRemote.frame(III)I
noncomputable def f_X11_frame_128 (l0 : Nat) (μ : MS) : Option ((Int32 × MS)) :=
  (gR μ 11 l0 8).bind fun x129 =>
  (gI μ 2 x129 0).bind fun x132 =>
  some (x132, μ)
noncomputable def f_X11_frame (l0 : Nat) (l1 : Int32) (l2 : Int32) (l3 : Int32) (μ : MS) : Option ((Int32 × MS)) :=
  (f_X11_isSlot l1 μ).bind fun z1 =>
  if z1.1 = 0 then
    some ((-1), z1.2)
  else
    if l2 < 0 then
      some ((-1), z1.2)
    else
      (f_X11_inRange l3 0 4 z1.2).bind fun z14 =>
      if z14.1 = 0 then
        some ((-1), z14.2)
      else
        (gR z14.2 11 l0 7).bind fun x23 =>
        (gR z14.2 11 l0 0).bind fun x27 =>
        (isO z14.2 7 x27 (f_X7_trainAt x27 l1 z14.2)).bind fun z31 =>
        (gR z31.2 11 l0 0).bind fun x35 =>
        (gI z31.2 7 x35 2).bind fun x38 =>
        (isO z31.2 3 x23 (f_X3_split x23 z31.1 x38 z31.2)).bind fun z41 =>
        (gR z41 11 l0 7).bind fun x46 =>
        (gI z41 3 x46 2).bind fun x49 =>
        if l2 < x49 then
          if 2 ≤ l3 then
            (gR z41 11 l0 8).bind fun x88 =>
            (gR z41 11 l0 0).bind fun x92 =>
            (gR z41 7 x92 0).bind fun x95 =>
            (gR z41 11 l0 7).bind fun x99 =>
            (gR z41 11 l0 0).bind fun x104 =>
            (gI z41 7 x104 4).bind fun x107 =>
            (isO z41 2 x88 (f_X2_decode x88 x95 x99 l2 x107 z41)).bind fun z110 =>
            if l3 = 2 then
              f_X11_frame_128 l0 z110
            else
              (gR z110 11 l0 8).bind fun x119 =>
              (isO z110 2 x119 (f_X2_isDecoded x119 z110)).bind fun z122 =>
              if z122.1 = 0 then
                f_X11_frame_128 l0 z122.2
              else
                if l3 = 3 then
                  (gR z122.2 11 l0 8).bind fun x142 =>
                  (gI z122.2 2 x142 1).bind fun x145 =>
                  some (x145, z122.2)
                else
                  (gR z122.2 11 l0 8).bind fun x150 =>
                  (isO z122.2 2 x150 (f_X2_isCode x150 z122.2)).bind fun z153 =>
                  if z153.1 = 0 then
                    some (1, z153.2)
                  else
                    some (0, z153.2)
          else
            if l3 = 0 then
              (gR z41 11 l0 7).bind fun x68 =>
              (isO z41 3 x68 (f_X3_startOf x68 l2 z41)).bind fun z72 =>
              some (z72.1, z72.2)
            else
              (gR z41 11 l0 7).bind fun x79 =>
              (isO z41 3 x79 (f_X3_sizeOf x79 l2 z41)).bind fun z83 =>
              some (z83.1, z83.2)
        else
          some ((-9), z41)
-- PulseRemote.worstDeviation(ILPulseRemote$Train;)I
noncomputable def f_X11_worstDeviation_61 (l3 : Int32) (μ : MS) : Option ((Int32 × MS)) :=
  some (l3, μ)
noncomputable def f_X11_worstDeviation_55 (l0 : Nat) (l1 : Int32) (l2 : Nat) (l3 : Int32) (l4 : Int32) (μ : MS) : Option (((Nat × Int32 × Nat × Int32 × Int32 × MS) ⊕ (Int32 × MS))) :=
  (some (l4 + 1)).bind fun v55 =>
  some (.inl (l0, l1, l2, l3, v55, μ))
noncomputable def f_X11_worstDeviation_5_b (l0 : Nat) (l1 : Int32) (l2 : Nat) (l3 : Int32) (l4 : Int32) (μ : MS) : Option (((Nat × Int32 × Nat × Int32 × Int32 × MS) ⊕ (Int32 × MS))) :=
  (gI μ 10 l2 1).bind fun x8 =>
  if x8 ≤ l4 then
    xr (f_X11_worstDeviation_61 l3 μ)
  else
    (isO μ 10 l2 (f_X10_at l2 l4 μ)).bind fun z17 =>
    if z17.1 ≤ 0 then
      f_X11_worstDeviation_55 l0 l1 l2 l3 l4 z17.2
    else
      (gR z17.2 11 l0 7).bind fun x32 =>
      (isO z17.2 3 x32 (f_X3_durationAt x32 l1 l4 z17.2)).bind fun z38 =>
      (dvI (1000 * (abI (z38.1 - z17.1))) z17.1).bind fun v50 =>
      (some (mxI l3 v50)).bind fun v54 =>
      f_X11_worstDeviation_55 l0 l1 l2 v54 l4 z38.2
noncomputable def f_X11_worstDeviation_5 (l0 : Nat) (l1 : Int32) (l2 : Nat) (l3 : Int32) (l4 : Int32) (μ : MS) : Option ((Int32 × MS)) := lp (fun s : Nat × Int32 × Nat × Int32 × Int32 × MS => f_X11_worstDeviation_5_b s.1 s.2.1 s.2.2.1 s.2.2.2.1 s.2.2.2.2.1 s.2.2.2.2.2) (l0, l1, l2, l3, l4, μ)
noncomputable def f_X11_worstDeviation (l0 : Nat) (l1 : Int32) (l2 : Nat) (μ : MS) : Option ((Int32 × MS)) :=
  f_X11_worstDeviation_5 l0 l1 l2 0 0 μ
-- PulseRemote.deviation(II)I
noncomputable def f_X11_deviation_142 (l0 : Nat) (l2 : Int32) (μ : MS) : Option ((Int32 × MS)) :=
  (gR μ 11 l0 5).bind fun x145 =>
  (isO μ 11 l0 (f_X11_worstDeviation l0 l2 x145 μ)).bind fun z148 =>
  some (z148.1, z148.2)
noncomputable def f_X11_deviation (l0 : Nat) (l1 : Int32) (l2 : Int32) (μ : MS) : Option ((Int32 × MS)) :=
  (f_X11_isSlot l1 μ).bind fun z1 =>
  if z1.1 = 0 then
    some ((-1), z1.2)
  else
    if 0 ≤ l2 then
      (gR z1.2 11 l0 7).bind fun x14 =>
      (gR z1.2 11 l0 0).bind fun x18 =>
      (isO z1.2 7 x18 (f_X7_trainAt x18 l1 z1.2)).bind fun z22 =>
      (gR z22.2 11 l0 0).bind fun x26 =>
      (gI z22.2 7 x26 2).bind fun x29 =>
      (isO z22.2 3 x14 (f_X3_split x14 z22.1 x29 z22.2)).bind fun z32 =>
      (gR z32 11 l0 7).bind fun x37 =>
      (gI z32 3 x37 2).bind fun x40 =>
      if l2 < x40 then
        (gR z32 11 l0 8).bind fun x50 =>
        (gR z32 11 l0 0).bind fun x54 =>
        (gR z32 7 x54 0).bind fun x57 =>
        (gR z32 11 l0 7).bind fun x61 =>
        (gR z32 11 l0 0).bind fun x66 =>
        (gI z32 7 x66 4).bind fun x69 =>
        (isO z32 2 x50 (f_X2_decode x50 x57 x61 l2 x69 z32)).bind fun z72 =>
        (gR z72 11 l0 8).bind fun x76 =>
        (isO z72 2 x76 (f_X2_isDecoded x76 z72)).bind fun z79 =>
        if z79.1 = 0 then
          some ((-9), z79.2)
        else
          (gR z79.2 11 l0 0).bind fun x89 =>
          (gR z79.2 7 x89 0).bind fun x92 =>
          (gR z79.2 11 l0 8).bind fun x96 =>
          (gI z79.2 2 x96 0).bind fun x99 =>
          (isO z79.2 8 x92 (f_X8_protocolAt x92 x99 z79.2)).bind fun z102 =>
          (gR z102.2 11 l0 8).bind fun x107 =>
          (isO z102.2 2 x107 (f_X2_isCode x107 z102.2)).bind fun z110 =>
          if z110.1 = 0 then
            (gR z110.2 11 l0 5).bind fun x136 =>
            (isO z110.2 6 z102.1 (f_X6_writeShortFrame z102.1 x136 z110.2)).bind fun z139 =>
            f_X11_deviation_142 l0 l2 z139
          else
            (gR z110.2 11 l0 8).bind fun x118 =>
            (gI z110.2 2 x118 1).bind fun x121 =>
            (gR z110.2 11 l0 5).bind fun x125 =>
            (isO z110.2 6 z102.1 (f_X6_writeFrame z102.1 x121 x125 z110.2)).bind fun z128 =>
            f_X11_deviation_142 l0 l2 z128
      else
        some ((-9), z32)
    else
      some ((-1), z1.2)
-- PulseRemote$FrameList.spaceBefore(I)I
noncomputable def f_X3_spaceBefore (l0 : Nat) (l1 : Int32) (μ : MS) : Option ((Int32 × MS)) :=
  (gR μ 3 l0 3).bind fun x1 =>
  (isO μ 3 l0 (f_X3_startOf l0 l1 μ)).bind fun z6 =>
  (isO z6.2 10 x1 (f_X10_at x1 (z6.1 - 1) z6.2)).bind fun z11 =>
  some (z11.1, z11.2)
-- PulseRemote$PressList.continuesLatest(LPulseRemote$Decoder;LPulseRemote$Table;)Z
noncomputable def f_X5_continuesLatest (l0 : Nat) (l1 : Nat) (l2 : Nat) (μ : MS) : Option ((Int32 × MS)) :=
  (isO μ 2 l1 (f_X2_isDecoded l1 μ)).bind fun z1 =>
  if z1.1 = 0 then
    some (0, z1.2)
  else
    (gI z1.2 2 l1 0).bind fun x8 =>
    (gI z1.2 5 l0 6).bind fun x12 =>
    if x8 = x12 then
      (isO z1.2 2 l1 (f_X2_isCode l1 z1.2)).bind fun z21 =>
      if z21.1 = 0 then
        some (1, z21.2)
      else
        (gI z21.2 2 l1 1).bind fun x30 =>
        (gI z21.2 5 l0 7).bind fun x34 =>
        if x30 = x34 then
          (gI z21.2 5 l0 6).bind fun x42 =>
          (isO z21.2 8 l2 (f_X8_protocolAt l2 x42 z21.2)).bind fun z45 =>
          (gI z45.2 6 z45.1 8).bind fun x48 =>
          if x48 = 1 then
            some (0, z45.2)
          else
            some (1, z45.2)
        else
          some (0, z21.2)
    else
      some (0, z1.2)
-- PulseRemote$PressList.countLatest()V
noncomputable def f_X5_countLatest (l0 : Nat) (μ : MS) : Option (MS) :=
  (gI μ 5 l0 5).bind fun x1 =>
  if x1 = 0 then
    some μ
  else
    (gI μ 5 l0 3).bind fun x8 =>
    if x8 ≤ 0 then
      some μ
    else
      (gI μ 5 l0 3).bind fun x15 =>
      if 30 < x15 then
        some μ
      else
        (gR μ 5 l0 2).bind fun x24 =>
        (gI μ 5 l0 3).bind fun x28 =>
        (aI μ 15 x24 (x28 - 1)).bind fun x34 =>
        (sI μ 15 x24 (x28 - 1) (x34 + 1)).bind fun m37 =>
        some m37
-- PulseRemote$PressList.begin(LPulseRemote$Decoder;)V
noncomputable def f_X5_begin_31 (l0 : Nat) (s0 : Int32) (s1 : Nat) (μ : MS) : Option (MS) :=
  (pZ μ 5 s1 5 s0).bind fun m31 =>
  (gI m31 5 l0 5).bind fun x35 =>
  if x35 = 0 then
    some m31
  else
    (gR m31 5 l0 0).bind fun x42 =>
    (gI m31 5 l0 3).bind fun x46 =>
    (gI m31 5 l0 6).bind fun x50 =>
    (sI m31 15 x42 x46 x50).bind fun m53 =>
    (gR m53 5 l0 1).bind fun x55 =>
    (gI m53 5 l0 3).bind fun x59 =>
    (gI m53 5 l0 7).bind fun x63 =>
    (sI m53 15 x55 x59 x63).bind fun m66 =>
    (gR m66 5 l0 2).bind fun x68 =>
    (gI m66 5 l0 3).bind fun x72 =>
    (sI m66 15 x68 x72 1).bind fun m76 =>
    (gI m76 5 l0 3).bind fun x79 =>
    (pI m76 5 l0 3 (x79 + 1)).bind fun m84 =>
    some m84
noncomputable def f_X5_begin (l0 : Nat) (l1 : Nat) (μ : MS) : Option (MS) :=
  (gI μ 2 l1 0).bind fun x2 =>
  (pI μ 5 l0 6 x2).bind fun m5 =>
  (gI m5 2 l1 1).bind fun x10 =>
  (pI m5 5 l0 7 x10).bind fun m13 =>
  (gI m13 5 l0 3).bind fun x18 =>
  if 30 ≤ x18 then
    f_X5_begin_31 l0 0 l0 m13
  else
    f_X5_begin_31 l0 1 l0 m13
-- PulseRemote$PressList.find(LPulseRemote$State;ILPulseRemote$FrameList;LPulseRemote$Decoder;)V
noncomputable def f_X5_find_143  (μ : MS) : Option (MS) :=
  some μ
noncomputable def f_X5_find_137 (l0 : Nat) (l1 : Nat) (l3 : Nat) (l4 : Nat) (l5 : Int32) (l6 : Int32) (μ : MS) : Option (((Nat × Nat × Nat × Nat × Int32 × Int32 × MS) ⊕ MS)) :=
  (some (l6 + 1)).bind fun v137 =>
  some (.inl (l0, l1, l3, l4, l5, v137, μ))
noncomputable def f_X5_find_104 (l0 : Nat) (l1 : Nat) (l3 : Nat) (l4 : Nat) (l6 : Int32) (μ : MS) : Option (((Nat × Nat × Nat × Nat × Int32 × Int32 × MS) ⊕ MS)) :=
  (isO μ 2 l4 (f_X2_isCode l4 μ)).bind fun z106 =>
  if z106.1 = 0 then
    (gI z106.2 5 l0 4).bind fun x126 =>
    (pI z106.2 5 l0 4 (x126 + 1)).bind fun m131 =>
    f_X5_find_137 l0 l1 l3 l4 0 l6 m131
  else
    (isO z106.2 5 l0 (f_X5_begin l0 l4 z106.2)).bind fun z115 =>
    f_X5_find_137 l0 l1 l3 l4 1 l6 z115
noncomputable def f_X5_find_72 (l0 : Nat) (l1 : Nat) (l3 : Nat) (l4 : Nat) (l5 : Int32) (l6 : Int32) (s0 : Int32) (μ : MS) : Option (((Nat × Nat × Nat × Nat × Int32 × Int32 × MS) ⊕ MS)) :=
  if l5 = 0 then
    f_X5_find_104 l0 l1 l3 l4 l6 μ
  else
    if s0 = 0 then
      f_X5_find_104 l0 l1 l3 l4 l6 μ
    else
      (gR μ 7 l1 0).bind fun x88 =>
      (isO μ 5 l0 (f_X5_continuesLatest l0 l4 x88 μ)).bind fun z91 =>
      if z91.1 = 0 then
        f_X5_find_104 l0 l1 l3 l4 l6 z91.2
      else
        (isO z91.2 5 l0 (f_X5_countLatest l0 z91.2)).bind fun z98 =>
        f_X5_find_137 l0 l1 l3 l4 l5 l6 z98
noncomputable def f_X5_find_29_b (l0 : Nat) (l1 : Nat) (l3 : Nat) (l4 : Nat) (l5 : Int32) (l6 : Int32) (μ : MS) : Option (((Nat × Nat × Nat × Nat × Int32 × Int32 × MS) ⊕ MS)) :=
  (gI μ 3 l3 2).bind fun x32 =>
  if x32 ≤ l6 then
    xr (f_X5_find_143 μ)
  else
    (gR μ 7 l1 0).bind fun x41 =>
    (gI μ 7 l1 4).bind fun x48 =>
    (isO μ 2 l4 (f_X2_decode l4 x41 l3 l6 x48 μ)).bind fun z51 =>
    (isO z51 3 l3 (f_X3_spaceBefore l3 l6 z51)).bind fun z57 =>
    (gI z57.2 7 l1 3).bind fun x61 =>
    if x61 < z57.1 then
      f_X5_find_72 l0 l1 l3 l4 l5 l6 0 z57.2
    else
      f_X5_find_72 l0 l1 l3 l4 l5 l6 1 z57.2
noncomputable def f_X5_find_29 (l0 : Nat) (l1 : Nat) (l3 : Nat) (l4 : Nat) (l5 : Int32) (l6 : Int32) (μ : MS) : Option (MS) := lp (fun s : Nat × Nat × Nat × Nat × Int32 × Int32 × MS => f_X5_find_29_b s.1 s.2.1 s.2.2.1 s.2.2.2.1 s.2.2.2.2.1 s.2.2.2.2.2.1 s.2.2.2.2.2.2) (l0, l1, l3, l4, l5, l6, μ)
noncomputable def f_X5_find (l0 : Nat) (l1 : Nat) (l2 : Int32) (l3 : Nat) (l4 : Nat) (μ : MS) : Option (MS) :=
  (isO μ 7 l1 (f_X7_trainAt l1 l2 μ)).bind fun z3 =>
  (gI z3.2 7 l1 2).bind fun x7 =>
  (isO z3.2 3 l3 (f_X3_split l3 z3.1 x7 z3.2)).bind fun z10 =>
  (pI z10 5 l0 3 0).bind fun m15 =>
  (pI m15 5 l0 4 0).bind fun m20 =>
  f_X5_find_29 l0 l1 l3 l4 0 0 m20
-- PulseRemote.pressCount(I)I
noncomputable def f_X11_pressCount (l0 : Nat) (l1 : Int32) (μ : MS) : Option ((Int32 × MS)) :=
  (f_X11_isSlot l1 μ).bind fun z1 =>
  if z1.1 = 0 then
    some ((-1), z1.2)
  else
    (gR z1.2 11 l0 9).bind fun x10 =>
    (gR z1.2 11 l0 0).bind fun x14 =>
    (gR z1.2 11 l0 7).bind fun x19 =>
    (gR z1.2 11 l0 8).bind fun x23 =>
    (isO z1.2 5 x10 (f_X5_find x10 x14 l1 x19 x23 z1.2)).bind fun z26 =>
    (gR z26 11 l0 9).bind fun x30 =>
    (gI z26 5 x30 3).bind fun x33 =>
    some (x33, z26)
-- PulseRemote$Table.findButtonOf(II)I
noncomputable def f_X8_findButtonOf (l0 : Nat) (l1 : Int32) (l2 : Int32) (μ : MS) : Option ((Int32 × MS)) :=
  (isO μ 8 l0 (f_X8_protocolAt l0 l1 μ)).bind fun z4 =>
  (isO z4.2 6 z4.1 (f_X6_identityOf z4.1 l2 z4.2)).bind fun z8 =>
  (isO z8.2 8 l0 (f_X8_findButton l0 l1 z8.1 z8.2)).bind fun z11 =>
  some (z11.1, z11.2)
-- PulseRemote.press(III)I
noncomputable def f_X11_press (l0 : Nat) (l1 : Int32) (l2 : Int32) (l3 : Int32) (μ : MS) : Option ((Int32 × MS)) :=
  (f_X11_isSlot l1 μ).bind fun z1 =>
  if z1.1 = 0 then
    some ((-1), z1.2)
  else
    if l2 < 0 then
      some ((-1), z1.2)
    else
      (f_X11_inRange l3 0 3 z1.2).bind fun z14 =>
      if z14.1 = 0 then
        some ((-1), z14.2)
      else
        (gR z14.2 11 l0 9).bind fun x23 =>
        (gR z14.2 11 l0 0).bind fun x27 =>
        (gR z14.2 11 l0 7).bind fun x32 =>
        (gR z14.2 11 l0 8).bind fun x36 =>
        (isO z14.2 5 x23 (f_X5_find x23 x27 l1 x32 x36 z14.2)).bind fun z39 =>
        (gR z39 11 l0 9).bind fun x44 =>
        (gI z39 5 x44 3).bind fun x47 =>
        if l2 < x47 then
          if l3 = 0 then
            (gR z39 11 l0 9).bind fun x85 =>
            (gR z39 5 x85 0).bind fun x88 =>
            (aI z39 15 x88 l2).bind fun x92 =>
            some (x92, z39)
          else
          if l3 = 1 then
            (gR z39 11 l0 9).bind fun x95 =>
            (gR z39 5 x95 1).bind fun x98 =>
            (aI z39 15 x98 l2).bind fun x102 =>
            some (x102, z39)
          else
          if l3 = 2 then
            (gR z39 11 l0 9).bind fun x105 =>
            (gR z39 5 x105 2).bind fun x108 =>
            (aI z39 15 x108 l2).bind fun x112 =>
            some (x112, z39)
          else
            (gR z39 11 l0 0).bind fun x115 =>
            (gR z39 7 x115 0).bind fun x118 =>
            (gR z39 11 l0 9).bind fun x122 =>
            (gR z39 5 x122 0).bind fun x125 =>
            (aI z39 15 x125 l2).bind fun x129 =>
            (gR z39 11 l0 9).bind fun x131 =>
            (gR z39 5 x131 1).bind fun x134 =>
            (aI z39 15 x134 l2).bind fun x138 =>
            (isO z39 8 x118 (f_X8_findButtonOf x118 x129 x138 z39)).bind fun z139 =>
            some (z139.1, z139.2)
        else
          some ((-9), z39)
-- PulseRemote.strayCount(I)I
noncomputable def f_X11_strayCount (l0 : Nat) (l1 : Int32) (μ : MS) : Option ((Int32 × MS)) :=
  (f_X11_isSlot l1 μ).bind fun z1 =>
  if z1.1 = 0 then
    some ((-1), z1.2)
  else
    (gR z1.2 11 l0 9).bind fun x10 =>
    (gR z1.2 11 l0 0).bind fun x14 =>
    (gR z1.2 11 l0 7).bind fun x19 =>
    (gR z1.2 11 l0 8).bind fun x23 =>
    (isO z1.2 5 x10 (f_X5_find x10 x14 l1 x19 x23 z1.2)).bind fun z26 =>
    (gR z26 11 l0 9).bind fun x30 =>
    (gI z26 5 x30 4).bind fun x33 =>
    some (x33, z26)
-- PulseRemote.toleranceFor(II)I
noncomputable def f_X11_toleranceFor_46  (μ : MS) : Option ((Int32 × MS)) :=
  some ((-9), μ)
noncomputable def f_X11_toleranceFor_38 (l3 : Int32) (μ : MS) : Option ((Int32 × MS)) :=
  some (l3, μ)
noncomputable def f_X11_toleranceFor_2_b (l0 : Nat) (l1 : Int32) (l3 : Int32) (μ : MS) : Option (((Nat × Int32 × Int32 × MS) ⊕ (Int32 × MS))) :=
  if 40 < l3 then
    xr (f_X11_toleranceFor_46 μ)
  else
    (gR μ 11 l0 8).bind fun x9 =>
    (gR μ 11 l0 0).bind fun x13 =>
    (gR μ 7 x13 0).bind fun x16 =>
    (gR μ 11 l0 7).bind fun x20 =>
    (isO μ 2 x9 (f_X2_decode x9 x16 x20 l1 l3 μ)).bind fun z25 =>
    (gR z25 11 l0 8).bind fun x29 =>
    (isO z25 2 x29 (f_X2_isDecoded x29 z25)).bind fun z32 =>
    if z32.1 = 0 then
      (some (l3 + 1)).bind fun v40 =>
      some (.inl (l0, l1, v40, z32.2))
    else
      xr (f_X11_toleranceFor_38 l3 z32.2)
noncomputable def f_X11_toleranceFor_2 (l0 : Nat) (l1 : Int32) (l3 : Int32) (μ : MS) : Option ((Int32 × MS)) := lp (fun s : Nat × Int32 × Int32 × MS => f_X11_toleranceFor_2_b s.1 s.2.1 s.2.2.1 s.2.2.2) (l0, l1, l3, μ)
noncomputable def f_X11_toleranceFor (l0 : Nat) (l1 : Int32) (l2 : Int32) (μ : MS) : Option ((Int32 × MS)) :=
  f_X11_toleranceFor_2 l0 l1 l2 μ
-- PulseRemote.neededTolerance(I)I
noncomputable def f_X11_neededTolerance_68 (l2 : Int32) (μ : MS) : Option ((Int32 × MS)) :=
  some (l2, μ)
noncomputable def f_X11_neededTolerance_59  (μ : MS) : Option ((Int32 × MS)) :=
  some ((-9), μ)
noncomputable def f_X11_neededTolerance_35_b (l0 : Nat) (l2 : Int32) (l3 : Int32) (μ : MS) : Option (((Nat × Int32 × Int32 × MS) ⊕ (Int32 × MS))) :=
  (gR μ 11 l0 7).bind fun x37 =>
  (gI μ 3 x37 2).bind fun x40 =>
  if x40 ≤ l3 then
    xr (f_X11_neededTolerance_68 l2 μ)
  else
    (isO μ 11 l0 (f_X11_toleranceFor l0 l3 l2 μ)).bind fun z49 =>
    if z49.1 = ((-9)) then
      xr (f_X11_neededTolerance_59 z49.2)
    else
      (some (l3 + 1)).bind fun v62 =>
      some (.inl (l0, z49.1, v62, z49.2))
noncomputable def f_X11_neededTolerance_35 (l0 : Nat) (l2 : Int32) (l3 : Int32) (μ : MS) : Option ((Int32 × MS)) := lp (fun s : Nat × Int32 × Int32 × MS => f_X11_neededTolerance_35_b s.1 s.2.1 s.2.2.1 s.2.2.2) (l0, l2, l3, μ)
noncomputable def f_X11_neededTolerance (l0 : Nat) (l1 : Int32) (μ : MS) : Option ((Int32 × MS)) :=
  (f_X11_isSlot l1 μ).bind fun z1 =>
  if z1.1 = 0 then
    some ((-1), z1.2)
  else
    (gR z1.2 11 l0 7).bind fun x10 =>
    (gR z1.2 11 l0 0).bind fun x14 =>
    (isO z1.2 7 x14 (f_X7_trainAt x14 l1 z1.2)).bind fun z18 =>
    (gR z18.2 11 l0 0).bind fun x22 =>
    (gI z18.2 7 x22 2).bind fun x25 =>
    (isO z18.2 3 x10 (f_X3_split x10 z18.1 x25 z18.2)).bind fun z28 =>
    f_X11_neededTolerance_35 l0 0 0 z28
-- PulseRemote.undo()I
noncomputable def f_X11_undo (l0 : Nat) (μ : MS) : Option ((Int32 × MS)) :=
  (gI μ 11 l0 2).bind fun x1 =>
  if 0 < x1 then
    (gI μ 11 l0 2).bind fun x12 =>
    (pI μ 11 l0 2 (x12 - 1)).bind fun m17 =>
    (gR m17 11 l0 0).bind fun x21 =>
    (gR m17 11 l0 1).bind fun x27 =>
    (gI m17 11 l0 2).bind fun x31 =>
    (aR m17 19 x27 x31).bind fun x34 =>
    (pR m17 11 l0 0 x34).bind fun m35 =>
    (gR m35 11 l0 1).bind fun x39 =>
    (gI m35 11 l0 2).bind fun x43 =>
    (sR m35 19 7 x39 x43 x21).bind fun m47 =>
    (gI m47 11 l0 2).bind fun x49 =>
    some (x49, m47)
  else
    some ((-2), μ)
-- PulseRemoteLaw.cell([II)I

-- PulseRemoteLaw.low(II)I
noncomputable def f_L_low (l0 : Int32) (l1 : Int32) (μ : MS) : Option ((Int32 × MS)) :=
  (rmI (l0 &&& 2147483647) l1).bind fun v5 =>
  some (v5, μ)
-- PulseRemoteLaw.tale(LPulseRemote;)J
noncomputable def f_L_tale_219 (l1 : Int64) (μ : MS) : Option ((Int64 × MS)) :=
  some (l1, μ)
noncomputable def f_L_tale_178_b (l0 : Nat) (l1 : Int64) (l3 : Int32) (μ : MS) : Option (((Nat × Int64 × Int32 × MS) ⊕ (Int64 × MS))) :=
  (isO μ 11 l0 (f_X11_count l0 1 μ)).bind fun z181 =>
  if z181.1 ≤ l3 then
    xr (f_L_tale_219 l1 z181.2)
  else
    (isO z181.2 11 l0 (f_X11_button l0 l3 0 z181.2)).bind fun z195 =>
    (isO z195.2 11 l0 (f_X11_button l0 l3 1 z195.2)).bind fun z206 =>
    (some (((l1 * 47) + z195.1.toInt64) + (17 * z206.1.toInt64))).bind fun v212 =>
    (some (l3 + 1)).bind fun v213 =>
    some (.inl (l0, v212, v213, z206.2))
noncomputable def f_L_tale_178 (l0 : Nat) (l1 : Int64) (l3 : Int32) (μ : MS) : Option ((Int64 × MS)) := lp (fun s : Nat × Int64 × Int32 × MS => f_L_tale_178_b s.1 s.2.1 s.2.2.1 s.2.2.2) (l0, l1, l3, μ)
noncomputable def f_L_tale_176 (l0 : Nat) (l1 : Int64) (μ : MS) : Option ((Int64 × MS)) :=
  f_L_tale_178 l0 l1 0 μ
noncomputable def f_L_tale_170 (l0 : Nat) (l1 : Int64) (l3 : Int32) (μ : MS) : Option (((Nat × Int64 × Int32 × MS) ⊕ (Int64 × MS))) :=
  (some (l3 + 1)).bind fun v170 =>
  some (.inl (l0, l1, v170, μ))
noncomputable def f_L_tale_142_b (l0 : Nat) (l1 : Int64) (l3 : Int32) (l4 : Int32) (μ : MS) : Option (((Nat × Int64 × Int32 × Int32 × MS) ⊕ ((Nat × Int64 × Int32 × MS) ⊕ (Int64 × MS)))) :=
  if 9 ≤ l4 then
    xr (f_L_tale_170 l0 l1 l3 μ)
  else
    (isO μ 11 l0 (f_X11_protocol l0 l3 l4 μ)).bind fun z158 =>
    (some ((l1 * 43) + z158.1.toInt64)).bind fun v163 =>
    (some (l4 + 1)).bind fun v164 =>
    some (.inl (l0, v163, l3, v164, z158.2))
noncomputable def f_L_tale_142 (l0 : Nat) (l1 : Int64) (l3 : Int32) (l4 : Int32) (μ : MS) : Option (((Nat × Int64 × Int32 × MS) ⊕ (Int64 × MS))) := lp (fun s : Nat × Int64 × Int32 × Int32 × MS => f_L_tale_142_b s.1 s.2.1 s.2.2.1 s.2.2.2.1 s.2.2.2.2) (l0, l1, l3, l4, μ)
noncomputable def f_L_tale_130_b (l0 : Nat) (l1 : Int64) (l3 : Int32) (μ : MS) : Option (((Nat × Int64 × Int32 × MS) ⊕ (Int64 × MS))) :=
  (isO μ 11 l0 (f_X11_count l0 0 μ)).bind fun z133 =>
  if z133.1 ≤ l3 then
    xr (f_L_tale_176 l0 l1 z133.2)
  else
    f_L_tale_142 l0 l1 l3 0 z133.2
noncomputable def f_L_tale_130 (l0 : Nat) (l1 : Int64) (l3 : Int32) (μ : MS) : Option ((Int64 × MS)) := lp (fun s : Nat × Int64 × Int32 × MS => f_L_tale_130_b s.1 s.2.1 s.2.2.1 s.2.2.2) (l0, l1, l3, μ)
noncomputable def f_L_tale_128 (l0 : Nat) (l1 : Int64) (μ : MS) : Option ((Int64 × MS)) :=
  f_L_tale_130 l0 l1 0 μ
noncomputable def f_L_tale_76 (l0 : Nat) (l1 : Int64) (l3 : Int32) (μ : MS) : Option (((Nat × Int64 × Int32 × MS) ⊕ (Int64 × MS))) :=
  (isO μ 11 l0 (f_X11_pressCount l0 l3 μ)).bind fun z83 =>
  (isO z83.2 11 l0 (f_X11_strayCount l0 l3 z83.2)).bind fun z93 =>
  (isO z93.2 11 l0 (f_X11_frameCount l0 l3 z93.2)).bind fun z104 =>
  (isO z104.2 11 l0 (f_X11_neededTolerance l0 l3 z104.2)).bind fun z115 =>
  (some (((((l1 * 41) + z83.1.toInt64) + (5 * z93.1.toInt64)) + (11 * z104.1.toInt64)) + (13 * z115.1.toInt64))).bind fun v121 =>
  (some (l3 + 1)).bind fun v122 =>
  some (.inl (l0, v121, v122, z115.2))
noncomputable def f_L_tale_45_b (l0 : Nat) (l1 : Int64) (l3 : Int32) (l4 : Int32) (μ : MS) : Option (((Nat × Int64 × Int32 × Int32 × MS) ⊕ ((Nat × Int64 × Int32 × MS) ⊕ (Int64 × MS)))) :=
  (isO μ 11 l0 (f_X11_length l0 l3 μ)).bind fun z49 =>
  if z49.1 ≤ l4 then
    xr (f_L_tale_76 l0 l1 l3 z49.2)
  else
    (isO z49.2 11 l0 (f_X11_duration l0 l3 l4 z49.2)).bind fun z64 =>
    (some ((l1 * 37) + z64.1.toInt64)).bind fun v69 =>
    (some (l4 + 1)).bind fun v70 =>
    some (.inl (l0, v69, l3, v70, z64.2))
noncomputable def f_L_tale_45 (l0 : Nat) (l1 : Int64) (l3 : Int32) (l4 : Int32) (μ : MS) : Option (((Nat × Int64 × Int32 × MS) ⊕ (Int64 × MS))) := lp (fun s : Nat × Int64 × Int32 × Int32 × MS => f_L_tale_45_b s.1 s.2.1 s.2.2.1 s.2.2.2.1 s.2.2.2.2) (l0, l1, l3, l4, μ)
noncomputable def f_L_tale_24_b (l0 : Nat) (l1 : Int64) (l3 : Int32) (μ : MS) : Option (((Nat × Int64 × Int32 × MS) ⊕ (Int64 × MS))) :=
  if 3 ≤ l3 then
    xr (f_L_tale_128 l0 l1 μ)
  else
    (isO μ 11 l0 (f_X11_length l0 l3 μ)).bind fun z36 =>
    (some ((l1 * 31) + z36.1.toInt64)).bind fun v41 =>
    f_L_tale_45 l0 v41 l3 0 z36.2
noncomputable def f_L_tale_24 (l0 : Nat) (l1 : Int64) (l3 : Int32) (μ : MS) : Option ((Int64 × MS)) := lp (fun s : Nat × Int64 × Int32 × MS => f_L_tale_24_b s.1 s.2.1 s.2.2.1 s.2.2.2) (l0, l1, l3, μ)
noncomputable def f_L_tale (l0 : Nat) (μ : MS) : Option ((Int64 × MS)) :=
  (isO μ 11 l0 (f_X11_count l0 0 μ)).bind fun z5 =>
  (isO z5.2 11 l0 (f_X11_count l0 1 z5.2)).bind fun z15 =>
  (some ((3 + z5.1.toInt64) + (7 * z15.1.toInt64))).bind fun v21 =>
  f_L_tale_24 l0 v21 0 z15.2
-- PulseRemoteLaw.does(LPulseRemote;I)I
noncomputable def f_L_does (l0 : Nat) (l1 : Int32) (μ : MS) : Option ((Int32 × MS)) :=
  (f_L_low (l1 >>> (4 &&& 31)) 3 μ).bind fun z4 =>
  if (l1 &&& 15) = 0 then
    (f_L_low (l1 >>> (6 &&& 31)) 3 z4.2).bind fun z78 =>
    (f_L_low (l1 >>> (8 &&& 31)) 17 z78.2).bind fun z88 =>
    (f_L_low (l1 >>> (14 &&& 31)) 3 z88.2).bind fun z103 =>
    (isO z103.2 11 l0 (f_X11_addProtocol l0 z78.1 (1 + z88.1) ((l1 >>> (13 &&& 31)) &&& 1) z103.1 z103.2)).bind fun z106 =>
    some (z106.1, z106.2)
  else
  if (l1 &&& 15) = 1 then
    (f_L_low (l1 >>> (6 &&& 31)) 3 z4.2).bind fun z116 =>
    (f_L_low (l1 >>> (8 &&& 31)) 3000 z116.2).bind fun z129 =>
    (f_L_low (l1 >>> (9 &&& 31)) 900 z129.2).bind fun z143 =>
    (f_L_low (l1 >>> (12 &&& 31)) 300 z143.2).bind fun z157 =>
    (isO z157.2 11 l0 (f_X11_setLengths l0 z116.1 (3000 + z129.1) (2000 + z143.1) (400 + z157.1) (((l1 >>> (25 &&& 31)) &&& 1) * 500) (((l1 >>> (25 &&& 31)) &&& 1) * 1500) z157.2)).bind fun z181 =>
    some (z181.1, z181.2)
  else
  if (l1 &&& 15) = 2 then
    (f_L_low (l1 >>> (6 &&& 31)) 3 z4.2).bind fun z191 =>
    (f_L_low (l1 >>> (8 &&& 31)) 300 z191.2).bind fun z201 =>
    (isO z201.2 11 l0 (f_X11_addButton l0 z191.1 z201.1 z201.2)).bind fun z204 =>
    some (z204.1, z204.2)
  else
  if (l1 &&& 15) = 3 then
    (isO z4.2 11 l0 (f_X11_learn l0 z4.1 z4.2)).bind fun z210 =>
    some (z210.1, z210.2)
  else
  if (l1 &&& 15) = 4 then
    if ((l1 >>> (6 &&& 31)) &&& 1) = 0 then
      (f_L_low (l1 >>> (7 &&& 31)) 20000 z4.2).bind fun z234 =>
      (isO z234.2 11 l0 (f_X11_setGap l0 (900 + z234.1) z234.2)).bind fun z238 =>
      some (z238.1, z238.2)
    else
      (f_L_low (l1 >>> (7 &&& 31)) 60000 z4.2).bind fun z254 =>
      (isO z254.2 11 l0 (f_X11_setHold l0 (900 + z254.1) z254.2)).bind fun z258 =>
      some (z258.1, z258.2)
  else
  if (l1 &&& 15) = 5 then
    (f_L_low (l1 >>> (6 &&& 31)) 44 z4.2).bind fun z269 =>
    (isO z269.2 11 l0 (f_X11_setTolerance l0 z269.1 z269.2)).bind fun z272 =>
    some (z272.1, z272.2)
  else
  if (l1 &&& 15) = 6 then
    (isO z4.2 11 l0 (f_X11_clear l0 z4.1 z4.2)).bind fun z278 =>
    some (z278.1, z278.2)
  else
  if (l1 &&& 15) = 7 then
    (f_L_low (l1 >>> (6 &&& 31)) 3 z4.2).bind fun z289 =>
    (f_L_low (l1 >>> (8 &&& 31)) 20000 z289.2).bind fun z299 =>
    (isO z299.2 11 l0 (f_X11_overlay l0 z4.1 z289.1 z299.1 z299.2)).bind fun z302 =>
    some (z302.1, z302.2)
  else
  if (l1 &&& 15) = 8 then
    (f_L_low (l1 >>> (6 &&& 31)) 33 z4.2).bind fun z314 =>
    (isO z314.2 11 l0 (f_X11_distort l0 z4.1 z314.1 ((l1 >>> (12 &&& 31)) &&& 1) z314.2)).bind fun z323 =>
    some (z323.1, z323.2)
  else
  if (l1 &&& 15) = 9 then
    (f_L_low (l1 >>> (6 &&& 31)) 3 z4.2).bind fun z334 =>
    (f_L_low (l1 >>> (8 &&& 31)) 50000 z334.2).bind fun z344 =>
    (isO z344.2 11 l0 (f_X11_sendShort l0 z4.1 z334.1 (1 + z344.1) z344.2)).bind fun z348 =>
    some (z348.1, z348.2)
  else
  if (l1 &&& 15) = 10 then
    (f_L_low (l1 >>> (6 &&& 31)) 20000 z4.2).bind fun z361 =>
    (isO z361.2 11 l0 (f_X11_append l0 z4.1 z361.1 z361.2)).bind fun z364 =>
    some (z364.1, z364.2)
  else
    (f_L_low (l1 >>> (6 &&& 31)) 3 z4.2).bind fun z375 =>
    (f_L_low (l1 >>> (8 &&& 31)) 300 z375.2).bind fun z385 =>
    (f_L_low (l1 >>> (9 &&& 31)) 50000 z385.2).bind fun z395 =>
    (isO z395.2 11 l0 (f_X11_send l0 z4.1 z375.1 z385.1 (1 + z395.1) z395.2)).bind fun z399 =>
    some (z399.1, z399.2)
-- PulseRemoteLaw.law([I)Z
noncomputable def f_L_law_446 (sc : SCR)  (μ : MS) : Option ((Int32 × MS)) :=
  some (1, μ)
noncomputable def f_L_law_438 (sc : SCR)  (μ : MS) : Option ((Int32 × MS)) :=
  some (0, μ)
noncomputable def f_L_law_398_b (sc : SCR) (l1 : Nat) (l3 : Int32) (l4 : Int32) (l5 : Int32) (μ : MS) : Option (((Nat × Int32 × Int32 × Int32 × MS) ⊕ (Int32 × MS))) :=
  (isO μ 11 l1 (f_X11_frameCount l1 0 μ)).bind fun z402 =>
  if z402.1 ≤ l5 then
    xr (f_L_law_446 sc z402.2)
  else
    if l4 < 0 then
      xr (f_L_law_438 sc z402.2)
    else
      (isO z402.2 11 l1 (f_X11_frame l1 0 l5 2 z402.2)).bind fun z418 =>
      if z418.1 < 0 then
        xr (f_L_law_438 sc z418.2)
      else
        (isO z418.2 11 l1 (f_X11_deviation l1 0 l5 z418.2)).bind fun z428 =>
        if z428.1 ≤ (10 * l3) then
          (some (l5 + 1)).bind fun v440 =>
          some (.inl (l1, l3, l4, v440, z428.2))
        else
          xr (f_L_law_438 sc z428.2)
noncomputable def f_L_law_398 (sc : SCR) (l1 : Nat) (l3 : Int32) (l4 : Int32) (l5 : Int32) (μ : MS) : Option ((Int32 × MS)) := lp (fun s : Nat × Int32 × Int32 × Int32 × MS => f_L_law_398_b sc s.1 s.2.1 s.2.2.1 s.2.2.2.1 s.2.2.2.2) (l1, l3, l4, l5, μ)
noncomputable def f_L_law_378 (sc : SCR) (l1 : Nat) (μ : MS) : Option ((Int32 × MS)) :=
  (isO μ 11 l1 (f_X11_neededTolerance l1 0 μ)).bind fun z380 =>
  if z380.1 < 0 then
    some (1, z380.2)
  else
    (isO z380.2 11 l1 (f_X11_setTolerance l1 z380.1 z380.2)).bind fun z390 =>
    f_L_law_398 sc l1 z380.1 z390.1 0 z390.2
noncomputable def f_L_law_372 (sc : SCR) (l1 : Nat) (l2 : Int32) (l3 : Int32) (μ : MS) : Option (((Nat × Int32 × Int32 × MS) ⊕ (Int32 × MS))) :=
  (some (l3 + 1)).bind fun v372 =>
  some (.inl (l1, l2, v372, μ))
noncomputable def f_L_law_357 (sc : SCR)  (μ : MS) : Option ((Int32 × MS)) :=
  some (0, μ)
noncomputable def f_L_law_354 (sc : SCR) (l1 : Nat) (l2 : Int32) (l3 : Int32) (l8 : Int32) (l10 : Int32) (l14 : Int32) (l15 : Int32) (l16 : Int32) (l17 : Int32) (s0 : Int32) (s1 : Int32) (μ : MS) : Option (((Nat × Int32 × Int32 × Int32 × Int32 × Int32 × Int32 × Int32 × MS) ⊕ ((Nat × Int32 × Int32 × MS) ⊕ (Int32 × MS)))) :=
  if s1 = s0 then
    (some (l16 + l17)).bind fun v364 =>
    (some (l15 + 1)).bind fun v366 =>
    some (.inl (l1, l2, l3, l8, l10, v364, l14, v366, μ))
  else
    xr (xr (f_L_law_357 sc μ))
noncomputable def f_L_law_338 (sc : SCR) (l1 : Nat) (l2 : Int32) (l3 : Int32) (l8 : Int32) (l10 : Int32) (l14 : Int32) (l15 : Int32) (l16 : Int32) (l17 : Int32) (s0 : Int32) (μ : MS) : Option (((Nat × Int32 × Int32 × Int32 × Int32 × Int32 × Int32 × Int32 × MS) ⊕ ((Nat × Int32 × Int32 × MS) ⊕ (Int32 × MS)))) :=
  (isO μ 11 l1 (f_X11_deviation l1 l8 l15 μ)).bind fun z343 =>
  if 0 ≤ z343.1 then
    f_L_law_354 sc l1 l2 l3 l8 l10 l14 l15 l16 l17 0 s0 z343.2
  else
    f_L_law_354 sc l1 l2 l3 l8 l10 l14 l15 l16 l17 1 s0 z343.2
noncomputable def f_L_law_262_b (sc : SCR) (l1 : Nat) (l2 : Int32) (l3 : Int32) (l8 : Int32) (l10 : Int32) (l13 : Int32) (l14 : Int32) (l15 : Int32) (μ : MS) : Option (((Nat × Int32 × Int32 × Int32 × Int32 × Int32 × Int32 × Int32 × MS) ⊕ ((Nat × Int32 × Int32 × MS) ⊕ (Int32 × MS)))) :=
  if l10 ≤ l15 then
    xr (f_L_law_372 sc l1 l2 l3 μ)
  else
    if (l14 + 2) ≤ l15 then
      xr (f_L_law_372 sc l1 l2 l3 μ)
    else
      (isO μ 11 l1 (f_X11_frame l1 l8 l15 0 μ)).bind fun z284 =>
      (isO z284.2 11 l1 (f_X11_frame l1 l8 l15 1 z284.2)).bind fun z295 =>
      (rmI z284.1 2).bind fun v303 =>
      if v303 = 0 then
        (rmI z295.1 2).bind fun v310 =>
        if v310 = 0 then
          xr (xr (f_L_law_357 sc z295.2))
        else
          if z284.1 ≤ l13 then
            xr (xr (f_L_law_357 sc z295.2))
          else
            (isO z295.2 11 l1 (f_X11_frame l1 l8 l15 2 z295.2)).bind fun z327 =>
            if 0 ≤ z327.1 then
              f_L_law_338 sc l1 l2 l3 l8 l10 l14 l15 z284.1 z295.1 0 z327.2
            else
              f_L_law_338 sc l1 l2 l3 l8 l10 l14 l15 z284.1 z295.1 1 z327.2
      else
        xr (xr (f_L_law_357 sc z295.2))
noncomputable def f_L_law_262 (sc : SCR) (l1 : Nat) (l2 : Int32) (l3 : Int32) (l8 : Int32) (l10 : Int32) (l13 : Int32) (l14 : Int32) (l15 : Int32) (μ : MS) : Option (((Nat × Int32 × Int32 × MS) ⊕ (Int32 × MS))) := lp (fun s : Nat × Int32 × Int32 × Int32 × Int32 × Int32 × Int32 × Int32 × MS => f_L_law_262_b sc s.1 s.2.1 s.2.2.1 s.2.2.2.1 s.2.2.2.2.1 s.2.2.2.2.2.1 s.2.2.2.2.2.2.1 s.2.2.2.2.2.2.2.1 s.2.2.2.2.2.2.2.2) (l1, l2, l3, l8, l10, l13, l14, l15, μ)
noncomputable def f_L_law_256 (sc : SCR) (l1 : Nat) (l2 : Int32) (l3 : Int32) (l8 : Int32) (l10 : Int32) (l13 : Int32) (s0 : Int32) (μ : MS) : Option (((Nat × Int32 × Int32 × MS) ⊕ (Int32 × MS))) :=
  f_L_law_262 sc l1 l2 l3 l8 l10 l13 s0 s0 μ
noncomputable def f_L_law_235 (sc : SCR) (l1 : Nat) (l2 : Int32) (l3 : Int32) (l4 : Int32) (l8 : Int32) (l10 : Int32) (μ : MS) : Option (((Nat × Int32 × Int32 × MS) ⊕ (Int32 × MS))) :=
  if l10 = 0 then
    f_L_law_256 sc l1 l2 l3 l8 l10 ((-1)) 0 μ
  else
    (f_L_low (l4 >>> (5 &&& 31)) l10 μ).bind fun z253 =>
    f_L_law_256 sc l1 l2 l3 l8 l10 ((-1)) z253.1 z253.2
noncomputable def f_L_law_233 (sc : SCR)  (μ : MS) : Option ((Int32 × MS)) :=
  some (0, μ)
noncomputable def f_L_law_214 (sc : SCR) (l1 : Nat) (l2 : Int32) (l3 : Int32) (l4 : Int32) (l8 : Int32) (l9 : Int32) (l10 : Int32) (l11 : Int32) (l12 : Int32) (μ : MS) : Option (((Nat × Int32 × Int32 × MS) ⊕ (Int32 × MS))) :=
  if l12 = 0 then
    f_L_law_235 sc l1 l2 l3 l4 l8 l10 μ
  else
    if 30 ≤ l11 then
      f_L_law_235 sc l1 l2 l3 l4 l8 l10 μ
    else
      if l9 = l10 then
        f_L_law_235 sc l1 l2 l3 l4 l8 l10 μ
      else
        xr (f_L_law_233 sc μ)
noncomputable def f_L_law_182_b (sc : SCR) (l1 : Nat) (l2 : Int32) (l3 : Int32) (l4 : Int32) (l8 : Int32) (l9 : Int32) (l10 : Int32) (l11 : Int32) (l12 : Int32) (l13 : Int32) (μ : MS) : Option (((Nat × Int32 × Int32 × Int32 × Int32 × Int32 × Int32 × Int32 × Int32 × Int32 × MS) ⊕ ((Nat × Int32 × Int32 × MS) ⊕ (Int32 × MS)))) :=
  if l11 ≤ l13 then
    xr (f_L_law_214 sc l1 l2 l3 l4 l8 l9 l10 l11 l12 μ)
  else
    if l12 = 0 then
      xr (f_L_law_214 sc l1 l2 l3 l4 l8 l9 l10 l11 l12 μ)
    else
      (isO μ 11 l1 (f_X11_press l1 l8 l13 2 μ)).bind fun z202 =>
      (some (l9 + z202.1)).bind fun v206 =>
      (some (l13 + 1)).bind fun v208 =>
      some (.inl (l1, l2, l3, l4, l8, v206, l10, l11, l12, v208, z202.2))
noncomputable def f_L_law_182 (sc : SCR) (l1 : Nat) (l2 : Int32) (l3 : Int32) (l4 : Int32) (l8 : Int32) (l9 : Int32) (l10 : Int32) (l11 : Int32) (l12 : Int32) (l13 : Int32) (μ : MS) : Option (((Nat × Int32 × Int32 × MS) ⊕ (Int32 × MS))) := lp (fun s : Nat × Int32 × Int32 × Int32 × Int32 × Int32 × Int32 × Int32 × Int32 × Int32 × MS => f_L_law_182_b sc s.1 s.2.1 s.2.2.1 s.2.2.2.1 s.2.2.2.2.1 s.2.2.2.2.2.1 s.2.2.2.2.2.2.1 s.2.2.2.2.2.2.2.1 s.2.2.2.2.2.2.2.2.1 s.2.2.2.2.2.2.2.2.2.1 s.2.2.2.2.2.2.2.2.2.2) (l1, l2, l3, l4, l8, l9, l10, l11, l12, l13, μ)
noncomputable def f_L_law_177 (sc : SCR) (l1 : Nat) (l2 : Int32) (l3 : Int32) (l4 : Int32) (l8 : Int32) (l9 : Int32) (l10 : Int32) (l11 : Int32) (s0 : Int32) (μ : MS) : Option (((Nat × Int32 × Int32 × MS) ⊕ (Int32 × MS))) :=
  f_L_law_182 sc l1 l2 l3 l4 l8 l9 l10 l11 s0 0 μ
noncomputable def f_L_law_129 (sc : SCR)  (μ : MS) : Option ((Int32 × MS)) :=
  some (0, μ)
noncomputable def f_L_law_120 (sc : SCR) (l1 : Nat) (l2 : Int32) (l3 : Int32) (l4 : Int32) (μ : MS) : Option (((Nat × Int32 × Int32 × MS) ⊕ (Int32 × MS))) :=
  (isO μ 11 l1 (f_X11_count l1 3 μ)).bind fun z122 =>
  if z122.1 = l2 then
    (f_L_low (l4 >>> (4 &&& 31)) 3 z122.2).bind fun z136 =>
    (isO z136.2 11 l1 (f_X11_strayCount l1 z136.1 z136.2)).bind fun z144 =>
    (isO z144.2 11 l1 (f_X11_frameCount l1 z136.1 z144.2)).bind fun z152 =>
    (isO z152.2 11 l1 (f_X11_pressCount l1 z136.1 z152.2)).bind fun z160 =>
    (rmI l3 4).bind fun v167 =>
    if v167 = 3 then
      f_L_law_177 sc l1 l2 l3 l4 z136.1 z144.1 z152.1 z160.1 1 z160.2
    else
      f_L_law_177 sc l1 l2 l3 l4 z136.1 z144.1 z152.1 z160.1 0 z160.2
  else
    xr (f_L_law_129 sc z122.2)
noncomputable def f_L_law_115 (sc : SCR)  (μ : MS) : Option ((Int32 × MS)) :=
  some (0, μ)
noncomputable def f_L_law_79 (sc : SCR) (l1 : Nat) (l3 : Int32) (l4 : Int32) (l5 : Int64) (l7 : Int32) (s0 : Int32) (μ : MS) : Option (((Nat × Int32 × Int32 × MS) ⊕ (Int32 × MS))) :=
  if l7 < 0 then
    f_L_law_120 sc l1 s0 l3 l4 μ
  else
    if ((l4 >>> (26 &&& 31)) &&& 3) = 0 then
      (isO μ 11 l1 (f_X11_undo l1 μ)).bind fun z96 =>
      if z96.1 = (s0 - 1) then
        (f_L_tale l1 z96.2).bind fun z106 =>
        if (lg_cmp z106.1 l5) = 0 then
          (some (s0 + (-1))).bind fun v117 =>
          f_L_law_120 sc l1 v117 l3 l4 z106.2
        else
          xr (f_L_law_115 sc z106.2)
      else
        xr (f_L_law_115 sc z96.2)
    else
      f_L_law_120 sc l1 s0 l3 l4 μ
noncomputable def f_L_law_56 (sc : SCR) (l1 : Nat) (l2 : Int32) (l3 : Int32) (l4 : Int32) (l5 : Int64) (l7 : Int32) (μ : MS) : Option (((Nat × Int32 × Int32 × MS) ⊕ (Int32 × MS))) :=
  if 0 ≤ l7 then
    if 6 ≤ l2 then
      f_L_law_79 sc l1 l3 l4 l5 l7 6 μ
    else
      f_L_law_79 sc l1 l3 l4 l5 l7 (l2 + 1) μ
  else
    f_L_law_79 sc l1 l3 l4 l5 l7 l2 μ
noncomputable def f_L_law_54 (sc : SCR)  (μ : MS) : Option ((Int32 × MS)) :=
  some (0, μ)
noncomputable def f_L_law_12_b (sc : SCR) (l1 : Nat) (l2 : Int32) (l3 : Int32) (μ : MS) : Option (((Nat × Int32 × Int32 × MS) ⊕ (Int32 × MS))) :=
  if 40 ≤ l3 then
    xr (f_L_law_378 sc l1 μ)
  else
    (cellF sc l3).bind fun z20 =>
    (f_L_tale l1 μ).bind fun z26 =>
    (f_L_does l1 z20 z26.2).bind fun z34 =>
    if 0 ≤ z34.1 then
      f_L_law_56 sc l1 l2 l3 z20 z26.1 z34.1 z34.2
    else
      (f_L_tale l1 z34.2).bind fun z45 =>
      if (lg_cmp z45.1 z26.1) = 0 then
        f_L_law_56 sc l1 l2 l3 z20 z26.1 z34.1 z45.2
      else
        xr (f_L_law_54 sc z45.2)
noncomputable def f_L_law_12 (sc : SCR) (l1 : Nat) (l2 : Int32) (l3 : Int32) (μ : MS) : Option ((Int32 × MS)) := lp (fun s : Nat × Int32 × Int32 × MS => f_L_law_12_b sc s.1 s.2.1 s.2.2.1 s.2.2.2) (l1, l2, l3, μ)
noncomputable def f_L_law_8 (sc : SCR) (l1 : Nat) (μ : MS) : Option ((Int32 × MS)) :=
  f_L_law_12 sc l1 0 0 μ
