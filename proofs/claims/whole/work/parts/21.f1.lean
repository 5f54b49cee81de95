/-! printed by wip/whole/gen.py -/
-- PulseRemoteModel.takes(Z)V
noncomputable def f_X12_takes_17 (l0 : Nat) (s0 : Int32) (s1 : Nat) (μ : MS) : Option (MS) :=
  (pZ μ 12 s1 9 s0).bind fun m17 =>
  (gI m17 12 l0 9).bind fun x21 =>
  if x21 = 0 then
    (isO m17 12 l0 (f_X12_readsToken l0 m17)).bind fun z28 =>
    some z28
  else
    some m17
noncomputable def f_X12_takes_12 (l0 : Nat) (s0 : Nat) (μ : MS) : Option (MS) :=
  f_X12_takes_17 l0 1 s0 μ
noncomputable def f_X12_takes (l0 : Nat) (l1 : Int32) (μ : MS) : Option (MS) :=
  (gI μ 12 l0 9).bind fun x2 =>
  if x2 = 0 then
    if l1 = 0 then
      f_X12_takes_12 l0 l0 μ
    else
      f_X12_takes_17 l0 0 l0 μ
  else
    f_X12_takes_12 l0 l0 μ
-- PulseRemoteModel.takesNumber(II)I
noncomputable def f_X12_takesNumber_17 (l0 : Nat) (l1 : Int32) (l2 : Int32) (s0 : Int32) (μ : MS) : Option ((Int32 × MS)) :=
  (f_X12_in s0 l1 l2 μ).bind fun z22 =>
  (isO z22.2 12 l0 (f_X12_takes l0 z22.1 z22.2)).bind fun z25 =>
  some (s0, z25)
noncomputable def f_X12_takesNumber (l0 : Nat) (l1 : Int32) (l2 : Int32) (μ : MS) : Option ((Int32 × MS)) :=
  (gI μ 12 l0 7).bind fun x1 =>
  if x1 = 2 then
    (gL μ 12 l0 8).bind fun x9 =>
    f_X12_takesNumber_17 l0 l1 l2 x9.toInt32 μ
  else
    f_X12_takesNumber_17 l0 l1 l2 ((-1)) μ
-- PulseRemoteModel.readsProtocol()V
noncomputable def f_X12_readsProtocol_143 (l0 : Nat) (l1 : Int32) (l2 : Int32) (l3 : Int32) (l4 : Int32) (l5 : Int32) (s0 : Int32) (s1 : Int32) (s2 : Nat) (μ : MS) : Option (MS) :=
  (isO μ 12 s2 (f_X12_takesNumber s2 s1 s0 μ)).bind fun z143 =>
  (isO z143.2 12 l0 (f_X12_takesNumber l0 1 16 z143.2)).bind fun z152 =>
  (isO z152.2 12 l0 (f_X12_takesNumber l0 0 1 z152.2)).bind fun z160 =>
  (isO z160.2 12 l0 (f_X12_takesNumber l0 0 2 z160.2)).bind fun z168 =>
  (gI z168.2 12 l0 9).bind fun x174 =>
  if x174 = 0 then
    (isO z168.2 12 l0 (f_X12_addsProtocol l0 l1 z152.1 z160.1 z168.1 z168.2)).bind fun z188 =>
    (gR z188 12 l0 0).bind fun x193 =>
    (aI z188 15 x193 3).bind fun x197 =>
    (isO z188 12 l0 (f_X12_setsLengths l0 (x197 - 1) l2 l3 l4 l5 z143.1 z188)).bind fun z208 =>
    some z208
  else
    some z168.2
noncomputable def f_X12_readsProtocol_131 (l0 : Nat) (l1 : Int32) (l2 : Int32) (l3 : Int32) (l4 : Int32) (l5 : Int32) (s0 : Int32) (s1 : Nat) (μ : MS) : Option (MS) :=
  if l1 = 2 then
    f_X12_readsProtocol_143 l0 l1 l2 l3 l4 l5 0 s0 s1 μ
  else
    f_X12_readsProtocol_143 l0 l1 l2 l3 l4 l5 20000 s0 s1 μ
noncomputable def f_X12_readsProtocol_116 (l0 : Nat) (l1 : Int32) (l2 : Int32) (l3 : Int32) (l4 : Int32) (l5 : Int32) (s0 : Int32) (s1 : Nat) (μ : MS) : Option (MS) :=
  (pZ μ 12 s1 9 s0).bind fun m116 =>
  if l1 = 2 then
    f_X12_readsProtocol_131 l0 l1 l2 l3 l4 l5 0 l0 m116
  else
    f_X12_readsProtocol_131 l0 l1 l2 l3 l4 l5 50 l0 m116
noncomputable def f_X12_readsProtocol_111 (l0 : Nat) (l1 : Int32) (l2 : Int32) (l3 : Int32) (l4 : Int32) (l5 : Int32) (s0 : Nat) (μ : MS) : Option (MS) :=
  f_X12_readsProtocol_116 l0 l1 l2 l3 l4 l5 1 s0 μ
noncomputable def f_X12_readsProtocol_96 (l0 : Nat) (l1 : Int32) (l2 : Int32) (l3 : Int32) (l4 : Int32) (l5 : Int32) (s0 : Int32) (μ : MS) : Option (MS) :=
  (gI μ 12 l0 9).bind fun x100 =>
  if x100 = 0 then
    if s0 = 0 then
      f_X12_readsProtocol_116 l0 l1 l2 l3 l4 l5 0 l0 μ
    else
      f_X12_readsProtocol_111 l0 l1 l2 l3 l4 l5 l0 μ
  else
    f_X12_readsProtocol_111 l0 l1 l2 l3 l4 l5 l0 μ
noncomputable def f_X12_readsProtocol_95 (l0 : Nat) (l1 : Int32) (l2 : Int32) (l3 : Int32) (l4 : Int32) (l5 : Int32) (μ : MS) : Option (MS) :=
  f_X12_readsProtocol_96 l0 l1 l2 l3 l4 l5 0 μ
noncomputable def f_X12_readsProtocol_62 (l0 : Nat) (l1 : Int32) (l2 : Int32) (l3 : Int32) (l4 : Int32) (s0 : Int32) (s1 : Int32) (s2 : Nat) (μ : MS) : Option (MS) :=
  (isO μ 12 s2 (f_X12_takesNumber s2 s1 s0 μ)).bind fun z62 =>
  if l1 = 2 then
    f_X12_readsProtocol_95 l0 l1 l2 l3 l4 z62.1 z62.2
  else
    (gI z62.2 12 l0 7).bind fun x73 =>
    if x73 = 2 then
      (gL z62.2 12 l0 8).bind fun x81 =>
      if (lg_cmp x81 z62.1.toInt64) = 0 then
        f_X12_readsProtocol_96 l0 l1 l2 l3 l4 z62.1 1 z62.2
      else
        f_X12_readsProtocol_95 l0 l1 l2 l3 l4 z62.1 z62.2
    else
      f_X12_readsProtocol_95 l0 l1 l2 l3 l4 z62.1 z62.2
noncomputable def f_X12_readsProtocol_50 (l0 : Nat) (l1 : Int32) (l2 : Int32) (l3 : Int32) (l4 : Int32) (s0 : Int32) (s1 : Nat) (μ : MS) : Option (MS) :=
  if l1 = 2 then
    f_X12_readsProtocol_62 l0 l1 l2 l3 l4 0 s0 s1 μ
  else
    f_X12_readsProtocol_62 l0 l1 l2 l3 l4 20000 s0 s1 μ
noncomputable def f_X12_readsProtocol (l0 : Nat) (μ : MS) : Option (MS) :=
  (isO μ 12 l0 (f_X12_takesNumber l0 0 2 μ)).bind fun z3 =>
  (isO z3.2 12 l0 (f_X12_takesNumber l0 50 20000 z3.2)).bind fun z13 =>
  (isO z13.2 12 l0 (f_X12_takesNumber l0 50 20000 z13.2)).bind fun z23 =>
  (isO z23.2 12 l0 (f_X12_takesNumber l0 50 20000 z23.2)).bind fun z33 =>
  if z3.1 = 2 then
    f_X12_readsProtocol_50 l0 z3.1 z13.1 z23.1 z33.1 0 l0 z33.2
  else
    f_X12_readsProtocol_50 l0 z3.1 z13.1 z23.1 z33.1 50 l0 z33.2
-- PulseRemoteModel.readsButton()V
noncomputable def f_X12_readsButton_107 (l0 : Nat) (l1 : Int32) (l4 : Int32) (s0 : Int32) (s1 : Nat) (μ : MS) : Option (MS) :=
  (isO μ 12 s1 (f_X12_takes s1 s0 μ)).bind fun z107 =>
  (gI z107 12 l0 9).bind fun x111 =>
  if x111 = 0 then
    (isO z107 12 l0 (f_X12_addsButton l0 l1 l4 z107)).bind fun z121 =>
    some z121
  else
    some z107
noncomputable def f_X12_readsButton_106 (l0 : Nat) (l1 : Int32) (l4 : Int32) (s0 : Nat) (μ : MS) : Option (MS) :=
  f_X12_readsButton_107 l0 l1 l4 0 s0 μ
noncomputable def f_X12_readsButton_83 (l0 : Nat) (l1 : Int32) (l3 : Int32) (s0 : Int32) (μ : MS) : Option (MS) :=
  if l3 = 0 then
    f_X12_readsButton_106 l0 l1 s0 l0 μ
  else
    (isO μ 12 l0 (f_X12_buttonOf l0 l1 s0 μ)).bind fun z94 =>
    if z94.1 = ((-9)) then
      f_X12_readsButton_107 l0 l1 s0 1 l0 z94.2
    else
      f_X12_readsButton_106 l0 l1 s0 l0 z94.2
noncomputable def f_X12_readsButton_68 (l0 : Nat) (l1 : Int32) (l2 : Int32) (s0 : Int32) (μ : MS) : Option (MS) :=
  if s0 = 0 then
    f_X12_readsButton_83 l0 l1 s0 0 μ
  else
    (isO μ 12 l0 (f_X12_identity l0 l1 l2 μ)).bind fun z76 =>
    f_X12_readsButton_83 l0 l1 s0 z76.1 z76.2
noncomputable def f_X12_readsButton_67 (l0 : Nat) (l1 : Int32) (l2 : Int32) (μ : MS) : Option (MS) :=
  f_X12_readsButton_68 l0 l1 l2 0 μ
noncomputable def f_X12_readsButton_49 (l0 : Nat) (l1 : Int32) (s0 : Int32) (μ : MS) : Option (MS) :=
  if s0 < 0 then
    f_X12_readsButton_67 l0 l1 s0 μ
  else
    (isO μ 12 l0 (f_X12_isCode l0 l1 s0 μ)).bind fun z57 =>
    if z57.1 = 0 then
      f_X12_readsButton_67 l0 l1 s0 z57.2
    else
      f_X12_readsButton_68 l0 l1 s0 1 z57.2
noncomputable def f_X12_readsButton_48 (l0 : Nat) (l1 : Int32) (μ : MS) : Option (MS) :=
  f_X12_readsButton_49 l0 l1 ((-1)) μ
noncomputable def f_X12_readsButton (l0 : Nat) (μ : MS) : Option (MS) :=
  (gR μ 12 l0 0).bind fun x3 =>
  (aI μ 15 x3 3).bind fun x7 =>
  (isO μ 12 l0 (f_X12_takesNumber l0 0 (x7 - 1) μ)).bind fun z10 =>
  (gI z10.2 12 l0 9).bind fun x15 =>
  if x15 = 0 then
    (gI z10.2 12 l0 7).bind fun x22 =>
    if x22 = 2 then
      (gL z10.2 12 l0 8).bind fun x30 =>
      if 0 ≤ (lg_cmp x30 65536) then
        f_X12_readsButton_48 l0 z10.1 z10.2
      else
        (gL z10.2 12 l0 8).bind fun x41 =>
        f_X12_readsButton_49 l0 z10.1 x41.toInt32 z10.2
    else
      f_X12_readsButton_48 l0 z10.1 z10.2
  else
    f_X12_readsButton_48 l0 z10.1 z10.2
-- PulseRemoteModel.exchanges()V
noncomputable def f_X12_exchanges_41  (μ : MS) : Option (MS) :=
  some μ
noncomputable def f_X12_exchanges_2_b (l0 : Nat) (l1 : Int32) (μ : MS) : Option (((Nat × Int32 × MS) ⊕ MS)) :=
  if 686 ≤ l1 then
    xr (f_X12_exchanges_41 μ)
  else
    (gR μ 12 l0 0).bind fun x10 =>
    (aI μ 15 x10 l1).bind fun x14 =>
    (gR μ 12 l0 0).bind fun x17 =>
    (gR μ 12 l0 10).bind fun x22 =>
    (aI μ 15 x22 l1).bind fun x26 =>
    (sI μ 15 x17 l1 x26).bind fun m27 =>
    (gR m27 12 l0 10).bind fun x29 =>
    (sI m27 15 x29 l1 x14).bind fun m34 =>
    (some (l1 + 1)).bind fun v35 =>
    some (.inl (l0, v35, m34))
noncomputable def f_X12_exchanges_2 (l0 : Nat) (l1 : Int32) (μ : MS) : Option (MS) := lp (fun s : Nat × Int32 × MS => f_X12_exchanges_2_b s.1 s.2.1 s.2.2) (l0, l1, μ)
noncomputable def f_X12_exchanges (l0 : Nat) (μ : MS) : Option (MS) :=
  f_X12_exchanges_2 l0 0 μ
-- PulseRemoteModel.load()I
noncomputable def f_X12_load_214 (l0 : Nat) (l1 : Int32) (μ : MS) : Option ((Int32 × MS)) :=
  (isO μ 12 l0 (f_X12_exchanges l0 μ)).bind fun z215 =>
  (gI z215 12 l0 9).bind fun x219 =>
  if x219 = 0 then
    (isO z215 12 l0 (f_X12_note l0 z215)).bind fun z234 =>
    (isO z234 12 l0 (f_X12_exchanges l0 z234)).bind fun z238 =>
    (pI z238 12 l0 4 0).bind fun m243 =>
    some (l1, m243)
  else
    (gI z215 12 l0 6).bind fun x228 =>
    some (((-10)) - x228, z215)
noncomputable def f_X12_load_205 (l0 : Nat) (l1 : Int32) (s0 : Int32) (s1 : Nat) (μ : MS) : Option (((Nat × Int32 × MS) ⊕ (Int32 × MS))) :=
  (isO μ 12 s1 (f_X12_takes s1 s0 μ)).bind fun z205 =>
  (some (l1 + 1)).bind fun v208 =>
  some (.inl (l0, v208, z205))
noncomputable def f_X12_load_191 (l0 : Nat) (l1 : Int32) (μ : MS) : Option (((Nat × Int32 × MS) ⊕ (Int32 × MS))) :=
  (gI μ 12 l0 7).bind fun x193 =>
  if x193 = 3 then
    f_X12_load_205 l0 l1 1 l0 μ
  else
    f_X12_load_205 l0 l1 0 l0 μ
noncomputable def f_X12_load_180 (l0 : Nat) (l1 : Int32) (μ : MS) : Option (((Nat × Int32 × MS) ⊕ (Int32 × MS))) :=
  (gI μ 12 l0 9).bind fun x181 =>
  if x181 = 0 then
    (isO μ 12 l0 (f_X12_readsButton l0 μ)).bind fun z188 =>
    f_X12_load_191 l0 l1 z188
  else
    f_X12_load_191 l0 l1 μ
noncomputable def f_X12_load_159 (l0 : Nat) (l1 : Int32) (l2 : Int32) (s0 : Int32) (s1 : Nat) (μ : MS) : Option (((Nat × Int32 × MS) ⊕ (Int32 × MS))) :=
  (isO μ 12 s1 (f_X12_takes s1 s0 μ)).bind fun z159 =>
  if l2 = 0 then
    f_X12_load_180 l0 l1 z159
  else
    (gI z159 12 l0 9).bind fun x167 =>
    if x167 = 0 then
      (isO z159 12 l0 (f_X12_readsProtocol l0 z159)).bind fun z174 =>
      f_X12_load_191 l0 l1 z174
    else
      f_X12_load_180 l0 l1 z159
noncomputable def f_X12_load_158 (l0 : Nat) (l1 : Int32) (l2 : Int32) (s0 : Nat) (μ : MS) : Option (((Nat × Int32 × MS) ⊕ (Int32 × MS))) :=
  f_X12_load_159 l0 l1 l2 0 s0 μ
noncomputable def f_X12_load_154 (l0 : Nat) (l1 : Int32) (l2 : Int32) (s0 : Nat) (μ : MS) : Option (((Nat × Int32 × MS) ⊕ (Int32 × MS))) :=
  f_X12_load_159 l0 l1 l2 1 s0 μ
noncomputable def f_X12_load_138 (l0 : Nat) (l1 : Int32) (l2 : Int32) (l3 : Int32) (s0 : Nat) (μ : MS) : Option (((Nat × Int32 × MS) ⊕ (Int32 × MS))) :=
  if l3 = 0 then
    f_X12_load_158 l0 l1 l2 s0 μ
  else
    (gR μ 12 l0 0).bind fun x143 =>
    (aI μ 15 x143 58).bind fun x148 =>
    if 12 ≤ x148 then
      f_X12_load_158 l0 l1 l2 s0 μ
    else
      f_X12_load_154 l0 l1 l2 s0 μ
noncomputable def f_X12_load_121 (l0 : Nat) (l1 : Int32) (l2 : Int32) (s0 : Int32) (μ : MS) : Option (((Nat × Int32 × MS) ⊕ (Int32 × MS))) :=
  if l2 = 0 then
    f_X12_load_138 l0 l1 l2 s0 l0 μ
  else
    (gR μ 12 l0 0).bind fun x128 =>
    (aI μ 15 x128 3).bind fun x132 =>
    if x132 < 6 then
      f_X12_load_154 l0 l1 l2 l0 μ
    else
      f_X12_load_138 l0 l1 l2 s0 l0 μ
noncomputable def f_X12_load_120 (l0 : Nat) (l1 : Int32) (l2 : Int32) (μ : MS) : Option (((Nat × Int32 × MS) ⊕ (Int32 × MS))) :=
  f_X12_load_121 l0 l1 l2 0 μ
noncomputable def f_X12_load_96 (l0 : Nat) (l1 : Int32) (s0 : Int32) (μ : MS) : Option (((Nat × Int32 × MS) ⊕ (Int32 × MS))) :=
  (gI μ 12 l0 7).bind fun x98 =>
  if x98 = 1 then
    (gL μ 12 l0 8).bind fun x106 =>
    if (lg_cmp x106 40266734) = 0 then
      f_X12_load_121 l0 l1 s0 1 μ
    else
      f_X12_load_120 l0 l1 s0 μ
  else
    f_X12_load_120 l0 l1 s0 μ
noncomputable def f_X12_load_95 (l0 : Nat) (l1 : Int32) (μ : MS) : Option (((Nat × Int32 × MS) ⊕ (Int32 × MS))) :=
  f_X12_load_96 l0 l1 0 μ
noncomputable def f_X12_load_58_b (l0 : Nat) (l1 : Int32) (μ : MS) : Option (((Nat × Int32 × MS) ⊕ (Int32 × MS))) :=
  (gI μ 12 l0 9).bind fun x59 =>
  if x59 = 0 then
    (gI μ 12 l0 7).bind fun x66 =>
    if x66 = 0 then
      xr (f_X12_load_214 l0 l1 μ)
    else
      (gI μ 12 l0 7).bind fun x73 =>
      if x73 = 1 then
        (gL μ 12 l0 8).bind fun x81 =>
        if (lg_cmp x81 8868840) = 0 then
          f_X12_load_96 l0 l1 1 μ
        else
          f_X12_load_95 l0 l1 μ
      else
        f_X12_load_95 l0 l1 μ
  else
    xr (f_X12_load_214 l0 l1 μ)
noncomputable def f_X12_load_58 (l0 : Nat) (l1 : Int32) (μ : MS) : Option ((Int32 × MS)) := lp (fun s : Nat × Int32 × MS => f_X12_load_58_b s.1 s.2.1 s.2.2) (l0, l1, μ)
noncomputable def f_X12_load_27 (l0 : Nat) (μ : MS) : Option ((Int32 × MS)) :=
  (gR μ 12 l0 0).bind fun x28 =>
  (sI μ 15 x28 3 0).bind fun m33 =>
  (gR m33 12 l0 0).bind fun x35 =>
  (sI m33 15 x35 58 0).bind fun m41 =>
  (pI m41 12 l0 5 0).bind fun m44 =>
  (pZ m44 12 l0 9 0).bind fun m49 =>
  (isO m49 12 l0 (f_X12_readsToken l0 m49)).bind fun z55 =>
  f_X12_load_58 l0 0 z55
noncomputable def f_X12_load_2_b (l0 : Nat) (l1 : Int32) (μ : MS) : Option (((Nat × Int32 × MS) ⊕ (Int32 × MS))) :=
  if 686 ≤ l1 then
    xr (f_X12_load_27 l0 μ)
  else
    (gR μ 12 l0 10).bind fun x10 =>
    (gR μ 12 l0 0).bind fun x15 =>
    (aI μ 15 x15 l1).bind fun x19 =>
    (sI μ 15 x10 l1 x19).bind fun m20 =>
    (some (l1 + 1)).bind fun v21 =>
    some (.inl (l0, v21, m20))
noncomputable def f_X12_load_2 (l0 : Nat) (l1 : Int32) (μ : MS) : Option ((Int32 × MS)) := lp (fun s : Nat × Int32 × MS => f_X12_load_2_b s.1 s.2.1 s.2.2) (l0, l1, μ)
noncomputable def f_X12_load (l0 : Nat) (μ : MS) : Option ((Int32 × MS)) :=
  f_X12_load_2 l0 0 μ
-- PulseRemoteModel.isMark()Z
noncomputable def f_X12_isMark (l0 : Nat) (μ : MS) : Option ((Int32 × MS)) :=
  (gI μ 12 l0 12).bind fun x1 =>
  (rmI x1 2).bind fun v5 =>
  if v5 = 1 then
    some (1, μ)
  else
    some (0, μ)
-- PulseRemoteModel.lays(ZI)V
noncomputable def f_X12_lays_33 (l0 : Nat) (l2 : Int32) (μ : MS) : Option (MS) :=
  (gR μ 12 l0 11).bind fun x34 =>
  (gI μ 12 l0 12).bind fun x38 =>
  (sI μ 15 x34 x38 l2).bind fun m42 =>
  (gI m42 12 l0 12).bind fun x45 =>
  (pI m42 12 l0 12 (x45 + 1)).bind fun m50 =>
  some m50
noncomputable def f_X12_lays (l0 : Nat) (l1 : Int32) (l2 : Int32) (μ : MS) : Option (MS) :=
  (gI μ 12 l0 12).bind fun x1 =>
  if x1 ≤ 0 then
    f_X12_lays_33 l0 l2 μ
  else
    (isO μ 12 l0 (f_X12_isMark l0 μ)).bind fun z8 =>
    if z8.1 = l1 then
      (gR z8.2 12 l0 11).bind fun x16 =>
      (gI z8.2 12 l0 12).bind fun x20 =>
      (aI z8.2 15 x16 (x20 - 1)).bind fun x26 =>
      (sI z8.2 15 x16 (x20 - 1) (x26 + l2)).bind fun m29 =>
      some m29
    else
      f_X12_lays_33 l0 l2 z8.2
-- PulseRemoteModel.bit(III)Z
noncomputable def f_X12_bit_35 (l2 : Int32) (s0 : Int32) (μ : MS) : Option ((Int32 × MS)) :=
  if ((l2 >>> (s0 &&& 31)) &&& 1) = 1 then
    some (1, μ)
  else
    some (0, μ)
noncomputable def f_X12_bit (l0 : Nat) (l1 : Int32) (l2 : Int32) (l3 : Int32) (μ : MS) : Option ((Int32 × MS)) :=
  (gR μ 12 l0 0).bind fun x1 =>
  (f_X12_at l1 μ).bind fun z5 =>
  (aI z5.2 15 x1 (z5.1 + 7)).bind fun x11 =>
  if x11 = 0 then
    (gR z5.2 12 l0 0).bind fun x16 =>
    (f_X12_at l1 z5.2).bind fun z20 =>
    (aI z20.2 15 x16 (z20.1 + 6)).bind fun x26 =>
    f_X12_bit_35 l2 ((x26 - 1) - l3) z20.2
  else
    f_X12_bit_35 l2 l3 z5.2
-- PulseRemoteModel.makes(II)V
noncomputable def f_X12_makes_259 (s0 : Int32) (s1 : Int32) (s2 : Nat) (μ : MS) : Option (MS) :=
  (pI μ 12 s2 12 (s1 - s0)).bind fun m260 =>
  some m260
noncomputable def f_X12_makes_242 (l0 : Nat) (μ : MS) : Option (MS) :=
  (gI μ 12 l0 12).bind fun x244 =>
  (isO μ 12 l0 (f_X12_isMark l0 μ)).bind fun z248 =>
  if z248.1 = 0 then
    f_X12_makes_259 1 x244 l0 z248.2
  else
    f_X12_makes_259 0 x244 l0 z248.2
noncomputable def f_X12_makes_218 (l0 : Nat) (l3 : Int32) (μ : MS) : Option (MS) :=
  (gR μ 12 l0 0).bind fun x219 =>
  (aI μ 15 x219 (l3 + 0)).bind fun x225 =>
  if x225 = 0 then
    (gR μ 12 l0 0).bind fun x232 =>
    (aI μ 15 x232 (l3 + 3)).bind fun x238 =>
    (isO μ 12 l0 (f_X12_lays l0 1 x238 μ)).bind fun z239 =>
    f_X12_makes_242 l0 z239
  else
    f_X12_makes_242 l0 μ
noncomputable def f_X12_makes_212 (l0 : Nat) (l1 : Int32) (l2 : Int32) (l3 : Int32) (l4 : Int32) (μ : MS) : Option (((Nat × Int32 × Int32 × Int32 × Int32 × MS) ⊕ MS)) :=
  (some (l4 + 1)).bind fun v212 =>
  some (.inl (l0, l1, l2, l3, v212, μ))
noncomputable def f_X12_makes_113 (l0 : Nat) (l1 : Int32) (l2 : Int32) (l3 : Int32) (l4 : Int32) (s0 : Int32) (s1 : Int32) (s2 : Nat) (μ : MS) : Option (((Nat × Int32 × Int32 × Int32 × Int32 × MS) ⊕ MS)) :=
  (isO μ 12 s2 (f_X12_lays s2 s1 s0 μ)).bind fun z113 =>
  f_X12_makes_212 l0 l1 l2 l3 l4 z113
noncomputable def f_X12_makes_157 (l0 : Nat) (l1 : Int32) (l2 : Int32) (l3 : Int32) (l4 : Int32) (s0 : Int32) (s1 : Int32) (s2 : Nat) (μ : MS) : Option (((Nat × Int32 × Int32 × Int32 × Int32 × MS) ⊕ MS)) :=
  (isO μ 12 s2 (f_X12_lays s2 s1 s0 μ)).bind fun z157 =>
  (gR z157 12 l0 0).bind fun x163 =>
  (aI z157 15 x163 (l3 + 3)).bind fun x169 =>
  (isO z157 12 l0 (f_X12_lays l0 0 x169 z157)).bind fun z170 =>
  f_X12_makes_212 l0 l1 l2 l3 l4 z170
noncomputable def f_X12_makes_201 (l0 : Nat) (l1 : Int32) (l2 : Int32) (l3 : Int32) (l4 : Int32) (s0 : Int32) (s1 : Nat) (μ : MS) : Option (((Nat × Int32 × Int32 × Int32 × Int32 × MS) ⊕ MS)) :=
  (gR μ 12 l0 0).bind fun x202 =>
  (aI μ 15 x202 (l3 + 3)).bind fun x208 =>
  (isO μ 12 s1 (f_X12_lays s1 s0 x208 μ)).bind fun z209 =>
  f_X12_makes_212 l0 l1 l2 l3 l4 z209
noncomputable def f_X12_makes_39_b (l0 : Nat) (l1 : Int32) (l2 : Int32) (l3 : Int32) (l4 : Int32) (μ : MS) : Option (((Nat × Int32 × Int32 × Int32 × Int32 × MS) ⊕ MS)) :=
  (gR μ 12 l0 0).bind fun x42 =>
  (aI μ 15 x42 (l3 + 6)).bind fun x49 =>
  if x49 ≤ l4 then
    xr (f_X12_makes_218 l0 l3 μ)
  else
    (isO μ 12 l0 (f_X12_bit l0 l1 l2 l4 μ)).bind fun z58 =>
    (gR z58.2 12 l0 0).bind fun x64 =>
    (aI z58.2 15 x64 (l3 + 0)).bind fun x70 =>
    if x70 = 0 then
      (gR z58.2 12 l0 0).bind fun x77 =>
      (aI z58.2 15 x77 (l3 + 3)).bind fun x83 =>
      (isO z58.2 12 l0 (f_X12_lays l0 1 x83 z58.2)).bind fun z84 =>
      if z58.1 = 0 then
        (gR z84 12 l0 0).bind fun x106 =>
        (aI z84 15 x106 (l3 + 4)).bind fun x112 =>
        f_X12_makes_113 l0 l1 l2 l3 l4 x112 0 l0 z84
      else
        (gR z84 12 l0 0).bind fun x95 =>
        (aI z84 15 x95 (l3 + 5)).bind fun x101 =>
        f_X12_makes_113 l0 l1 l2 l3 l4 x101 0 l0 z84
    else
      (gR z58.2 12 l0 0).bind fun x120 =>
      (aI z58.2 15 x120 (l3 + 0)).bind fun x126 =>
      if x126 = 1 then
        if z58.1 = 0 then
          (gR z58.2 12 l0 0).bind fun x150 =>
          (aI z58.2 15 x150 (l3 + 4)).bind fun x156 =>
          f_X12_makes_157 l0 l1 l2 l3 l4 x156 1 l0 z58.2
        else
          (gR z58.2 12 l0 0).bind fun x139 =>
          (aI z58.2 15 x139 (l3 + 5)).bind fun x145 =>
          f_X12_makes_157 l0 l1 l2 l3 l4 x145 1 l0 z58.2
      else
        (gR z58.2 12 l0 0).bind fun x180 =>
        (aI z58.2 15 x180 (l3 + 3)).bind fun x186 =>
        (isO z58.2 12 l0 (f_X12_lays l0 z58.1 x186 z58.2)).bind fun z187 =>
        if z58.1 = 0 then
          f_X12_makes_201 l0 l1 l2 l3 l4 1 l0 z187
        else
          f_X12_makes_201 l0 l1 l2 l3 l4 0 l0 z187
noncomputable def f_X12_makes_39 (l0 : Nat) (l1 : Int32) (l2 : Int32) (l3 : Int32) (l4 : Int32) (μ : MS) : Option (MS) := lp (fun s : Nat × Int32 × Int32 × Int32 × Int32 × MS => f_X12_makes_39_b s.1 s.2.1 s.2.2.1 s.2.2.2.1 s.2.2.2.2.1 s.2.2.2.2.2) (l0, l1, l2, l3, l4, μ)
noncomputable def f_X12_makes (l0 : Nat) (l1 : Int32) (l2 : Int32) (μ : MS) : Option (MS) :=
  (f_X12_at l1 μ).bind fun z1 =>
  (pI z1.2 12 l0 12 0).bind fun m7 =>
  (gR m7 12 l0 0).bind fun x13 =>
  (aI m7 15 x13 (z1.1 + 1)).bind fun x19 =>
  (isO m7 12 l0 (f_X12_lays l0 1 x19 m7)).bind fun z20 =>
  (gR z20 12 l0 0).bind fun x26 =>
  (aI z20 15 x26 (z1.1 + 2)).bind fun x32 =>
  (isO z20 12 l0 (f_X12_lays l0 0 x32 z20)).bind fun z33 =>
  f_X12_makes_39 l0 l1 l2 z1.1 0 z33
-- PulseRemoteModel.makesShort(I)V
noncomputable def f_X12_makesShort (l0 : Nat) (l1 : Int32) (μ : MS) : Option (MS) :=
  (gR μ 12 l0 11).bind fun x1 =>
  (gR μ 12 l0 0).bind fun x6 =>
  (f_X12_at l1 μ).bind fun z10 =>
  (aI z10.2 15 x6 (z10.1 + 1)).bind fun x15 =>
  (sI z10.2 15 x1 0 x15).bind fun m16 =>
  (gR m16 12 l0 11).bind fun x18 =>
  (gR m16 12 l0 0).bind fun x23 =>
  (f_X12_at l1 m16).bind fun z27 =>
  (aI z27.2 15 x23 (z27.1 + 2)).bind fun x32 =>
  (dvI x32 2).bind fun v34 =>
  (sI z27.2 15 x18 1 v34).bind fun m35 =>
  (gR m35 12 l0 11).bind fun x37 =>
  (gR m35 12 l0 0).bind fun x42 =>
  (f_X12_at l1 m35).bind fun z46 =>
  (aI z46.2 15 x42 (z46.1 + 3)).bind fun x51 =>
  (sI z46.2 15 x37 2 x51).bind fun m52 =>
  (pI m52 12 l0 12 3).bind fun m55 =>
  some m55
-- PulseRemoteModel.trainAt(I)I
noncomputable def f_X12_trainAt (l0 : Int32) (μ : MS) : Option ((Int32 × MS)) :=
  some (86 + (200 * l0), μ)
-- PulseRemoteModel.looksAt(I)V
noncomputable def f_X12_looksAt_46  (μ : MS) : Option (MS) :=
  some μ
noncomputable def f_X12_looksAt_15_b (l0 : Nat) (l1 : Int32) (l2 : Int32) (μ : MS) : Option (((Nat × Int32 × Int32 × MS) ⊕ MS)) :=
  (gI μ 12 l0 14).bind fun x17 =>
  if x17 ≤ l2 then
    xr (f_X12_looksAt_46 μ)
  else
    (gR μ 12 l0 13).bind fun x24 =>
    (gR μ 12 l0 0).bind fun x29 =>
    (f_X12_trainAt l1 μ).bind fun z33 =>
    (aI z33.2 15 x29 (z33.1 + l2)).bind fun x38 =>
    (sI z33.2 15 x24 l2 x38).bind fun m39 =>
    (some (l2 + 1)).bind fun v40 =>
    some (.inl (l0, l1, v40, m39))
noncomputable def f_X12_looksAt_15 (l0 : Nat) (l1 : Int32) (l2 : Int32) (μ : MS) : Option (MS) := lp (fun s : Nat × Int32 × Int32 × MS => f_X12_looksAt_15_b s.1 s.2.1 s.2.2.1 s.2.2.2) (l0, l1, l2, μ)
noncomputable def f_X12_looksAt (l0 : Nat) (l1 : Int32) (μ : MS) : Option (MS) :=
  (gR μ 12 l0 0).bind fun x2 =>
  (aI μ 15 x2 (83 + l1)).bind fun x9 =>
  (pI μ 12 l0 14 x9).bind fun m10 =>
  f_X12_looksAt_15 l0 l1 0 m10
-- PulseRemoteModel.append(II)I
noncomputable def f_X12_append (l0 : Nat) (l1 : Int32) (l2 : Int32) (μ : MS) : Option ((Int32 × MS)) :=
  (f_X12_isSlot l1 μ).bind fun z1 =>
  if z1.1 = 0 then
    some ((-1), z1.2)
  else
    (f_X12_in l2 1 60000 z1.2).bind fun z11 =>
    if z11.1 = 0 then
      some ((-1), z11.2)
    else
      (gR z11.2 12 l0 0).bind fun x20 =>
      (aI z11.2 15 x20 (83 + l1)).bind fun x27 =>
      if x27 = 200 then
        some ((-3), z11.2)
      else
        (isO z11.2 12 l0 (f_X12_note l0 z11.2)).bind fun z38 =>
        (gR z38 12 l0 0).bind fun x42 =>
        (f_X12_trainAt l1 z38).bind fun z46 =>
        (gR z46.2 12 l0 0).bind fun x50 =>
        (aI z46.2 15 x50 (83 + l1)).bind fun x57 =>
        (sI z46.2 15 x42 (z46.1 + x57) l2).bind fun m60 =>
        (gR m60 12 l0 0).bind fun x62 =>
        (aI m60 15 x62 (83 + l1)).bind fun x70 =>
        (sI m60 15 x62 (83 + l1) (x70 + 1)).bind fun m73 =>
        (gR m73 12 l0 0).bind fun x75 =>
        (aI m73 15 x75 (83 + l1)).bind fun x82 =>
        some (x82, m73)
-- PulseRemoteModel.sends(II)I
noncomputable def f_X12_sends_116 (l0 : Nat) (l1 : Int32) (l3 : Int32) (l4 : Int32) (μ : MS) : Option ((Int32 × MS)) :=
  (gR μ 12 l0 0).bind fun x117 =>
  (gI μ 12 l0 12).bind fun x129 =>
  (sI μ 15 x117 (83 + l1) ((l3 + l4) + x129)).bind fun m133 =>
  (gR m133 12 l0 0).bind fun x135 =>
  (aI m133 15 x135 (83 + l1)).bind fun x142 =>
  some (x142, m133)
noncomputable def f_X12_sends_77_b (l0 : Nat) (l1 : Int32) (l3 : Int32) (l4 : Int32) (l5 : Int32) (μ : MS) : Option (((Nat × Int32 × Int32 × Int32 × Int32 × MS) ⊕ (Int32 × MS))) :=
  (gI μ 12 l0 12).bind fun x80 =>
  if x80 ≤ l5 then
    xr (f_X12_sends_116 l0 l1 l3 l4 μ)
  else
    (gR μ 12 l0 0).bind fun x87 =>
    (f_X12_trainAt l1 μ).bind fun z91 =>
    (gR z91.2 12 l0 11).bind fun x103 =>
    (aI z91.2 15 x103 l5).bind fun x108 =>
    (sI z91.2 15 x87 (((z91.1 + l3) + l4) + l5) x108).bind fun m109 =>
    (some (l5 + 1)).bind fun v110 =>
    some (.inl (l0, l1, l3, l4, v110, m109))
noncomputable def f_X12_sends_77 (l0 : Nat) (l1 : Int32) (l3 : Int32) (l4 : Int32) (l5 : Int32) (μ : MS) : Option ((Int32 × MS)) := lp (fun s : Nat × Int32 × Int32 × Int32 × Int32 × MS => f_X12_sends_77_b s.1 s.2.1 s.2.2.1 s.2.2.2.1 s.2.2.2.2.1 s.2.2.2.2.2) (l0, l1, l3, l4, l5, μ)
noncomputable def f_X12_sends_74 (l0 : Nat) (l1 : Int32) (l3 : Int32) (l4 : Int32) (μ : MS) : Option ((Int32 × MS)) :=
  f_X12_sends_77 l0 l1 l3 l4 0 μ
noncomputable def f_X12_sends_32 (l0 : Nat) (l1 : Int32) (l2 : Int32) (l3 : Int32) (s0 : Int32) (μ : MS) : Option ((Int32 × MS)) :=
  (gI μ 12 l0 12).bind fun x39 =>
  if ((l3 + s0) + x39) ≤ 200 then
    (isO μ 12 l0 (f_X12_note l0 μ)).bind fun z53 =>
    if s0 = 1 then
      (gR z53 12 l0 0).bind fun x63 =>
      (f_X12_trainAt l1 z53).bind fun z67 =>
      (sI z67.2 15 x63 (z67.1 + l3) l2).bind fun m73 =>
      f_X12_sends_74 l0 l1 l3 s0 m73
    else
      f_X12_sends_74 l0 l1 l3 s0 z53
  else
    some ((-3), μ)
noncomputable def f_X12_sends_23 (l0 : Nat) (l1 : Int32) (l2 : Int32) (l3 : Int32) (μ : MS) : Option ((Int32 × MS)) :=
  if l3 ≤ 0 then
    f_X12_sends_32 l0 l1 l2 l3 0 μ
  else
    f_X12_sends_32 l0 l1 l2 l3 1 μ
noncomputable def f_X12_sends (l0 : Nat) (l1 : Int32) (l2 : Int32) (μ : MS) : Option ((Int32 × MS)) :=
  (gR μ 12 l0 0).bind fun x1 =>
  (aI μ 15 x1 (83 + l1)).bind fun x8 =>
  if x8 ≤ 0 then
    f_X12_sends_23 l0 l1 l2 x8 μ
  else
    (rmI x8 2).bind fun v16 =>
    if v16 = 0 then
      some ((-2), μ)
    else
      f_X12_sends_23 l0 l1 l2 x8 μ
-- PulseRemoteModel.send(IIII)I
noncomputable def f_X12_send (l0 : Nat) (l1 : Int32) (l2 : Int32) (l3 : Int32) (l4 : Int32) (μ : MS) : Option ((Int32 × MS)) :=
  (f_X12_isSlot l1 μ).bind fun z1 =>
  if z1.1 = 0 then
    some ((-1), z1.2)
  else
    (isO z1.2 12 l0 (f_X12_isProtocol l0 l2 z1.2)).bind fun z9 =>
    if z9.1 = 0 then
      some ((-1), z9.2)
    else
      (isO z9.2 12 l0 (f_X12_isCode l0 l2 l3 z9.2)).bind fun z18 =>
      if z18.1 = 0 then
        some ((-1), z18.2)
      else
        (f_X12_in l4 1 60000 z18.2).bind fun z29 =>
        if z29.1 = 0 then
          some ((-1), z29.2)
        else
          (isO z29.2 12 l0 (f_X12_makes l0 l2 l3 z29.2)).bind fun z40 =>
          (isO z40 12 l0 (f_X12_sends l0 l1 l4 z40)).bind fun z47 =>
          some (z47.1, z47.2)
-- PulseRemoteModel.sendShort(III)I
noncomputable def f_X12_sendShort (l0 : Nat) (l1 : Int32) (l2 : Int32) (l3 : Int32) (μ : MS) : Option ((Int32 × MS)) :=
  (f_X12_isSlot l1 μ).bind fun z1 =>
  if z1.1 = 0 then
    some ((-1), z1.2)
  else
    (isO z1.2 12 l0 (f_X12_isProtocol l0 l2 z1.2)).bind fun z9 =>
    if z9.1 = 0 then
      some ((-1), z9.2)
    else
      (f_X12_in l3 1 60000 z9.2).bind fun z19 =>
      if z19.1 = 0 then
        some ((-1), z19.2)
      else
        (isO z19.2 12 l0 (f_X12_makesShort l0 l2 z19.2)).bind fun z29 =>
        (isO z29 12 l0 (f_X12_sends l0 l1 l3 z29)).bind fun z35 =>
        some (z35.1, z35.2)
-- PulseRemoteModel.clear(I)I
noncomputable def f_X12_clear (l0 : Nat) (l1 : Int32) (μ : MS) : Option ((Int32 × MS)) :=
  (f_X12_isSlot l1 μ).bind fun z1 =>
  if z1.1 = 0 then
    some ((-1), z1.2)
  else
    (isO z1.2 12 l0 (f_X12_note l0 z1.2)).bind fun z10 =>
    (gR z10 12 l0 0).bind fun x14 =>
    (aI z10 15 x14 (83 + l1)).bind fun x21 =>
    (gR z10 12 l0 0).bind fun x24 =>
    (sI z10 15 x24 (83 + l1) 0).bind fun m32 =>
    some (x21, m32)
-- PulseRemoteModel.overlays(I)V
noncomputable def f_X12_overlays_395 (l0 : Nat) (l2 : Int32) (l4 : Int32) (l5 : Int32) (l6 : Int32) (s0 : Int32) (μ : MS) : Option (((Nat × Int32 × Int32 × Int32 × Int32 × Int32 × MS) ⊕ MS)) :=
  some (.inl (l0, l2, l4, l5, l6, s0, μ))
noncomputable def f_X12_overlays_371 (l0 : Nat) (l2 : Int32) (l4 : Int32) (l5 : Int32) (l6 : Int32) (l7 : Int32) (l9 : Int32) (μ : MS) : Option (((Nat × Int32 × Int32 × Int32 × Int32 × Int32 × MS) ⊕ MS)) :=
  (gR μ 12 l0 18).bind fun x372 =>
  (aI μ 15 x372 l9).bind fun x377 =>
  if x377 ≤ l7 then
    f_X12_overlays_395 l0 l2 l4 l5 l6 l7 μ
  else
    (gR μ 12 l0 18).bind fun x384 =>
    (aI μ 15 x384 l9).bind fun x389 =>
    f_X12_overlays_395 l0 l2 l4 l5 l6 x389 μ
noncomputable def f_X12_overlays_337 (l0 : Nat) (l2 : Int32) (l4 : Int32) (l5 : Int32) (l6 : Int32) (l7 : Int32) (l9 : Int32) (μ : MS) : Option (((Nat × Int32 × Int32 × Int32 × Int32 × Int32 × MS) ⊕ MS)) :=
  (gR μ 12 l0 13).bind fun x338 =>
  (gI μ 12 l0 14).bind fun x342 =>
  (gR μ 12 l0 18).bind fun x346 =>
  (aI μ 15 x346 l9).bind fun x351 =>
  (gR μ 12 l0 17).bind fun x353 =>
  (aI μ 15 x353 l9).bind fun x358 =>
  (sI μ 15 x338 x342 (x351 - x358)).bind fun m360 =>
  (gI m360 12 l0 14).bind fun x363 =>
  (pI m360 12 l0 14 (x363 + 1)).bind fun m368 =>
  f_X12_overlays_371 l0 l2 l4 l5 l6 l7 l9 m368
noncomputable def f_X12_overlays_301 (l0 : Nat) (l2 : Int32) (l4 : Int32) (l5 : Int32) (l6 : Int32) (l7 : Int32) (l9 : Int32) (μ : MS) : Option (((Nat × Int32 × Int32 × Int32 × Int32 × Int32 × MS) ⊕ MS)) :=
  (gI μ 12 l0 14).bind fun x302 =>
  if x302 ≤ 0 then
    f_X12_overlays_337 l0 l2 l4 l5 l6 l7 l9 μ
  else
    (gR μ 12 l0 13).bind fun x309 =>
    (gI μ 12 l0 14).bind fun x313 =>
    (gR μ 12 l0 17).bind fun x317 =>
    (aI μ 15 x317 l9).bind fun x322 =>
    (sI μ 15 x309 x313 (x322 - l7)).bind fun m326 =>
    (gI m326 12 l0 14).bind fun x329 =>
    (pI m326 12 l0 14 (x329 + 1)).bind fun m334 =>
    f_X12_overlays_337 l0 l2 l4 l5 l6 l7 l9 m334
noncomputable def f_X12_overlays_296 (l0 : Nat) (l2 : Int32) (l4 : Int32) (l5 : Int32) (l6 : Int32) (l7 : Int32) (l9 : Int32) (s0 : Int32) (s1 : Int32) (s2 : Int32) (s3 : Nat) (μ : MS) : Option (((Nat × Int32 × Int32 × Int32 × Int32 × Int32 × MS) ⊕ MS)) :=
  (sI μ 15 s3 s2 (s1 + s0)).bind fun m297 =>
  f_X12_overlays_371 l0 l2 l4 l5 l6 l7 l9 m297
noncomputable def f_X12_overlays_236 (l0 : Nat) (l2 : Int32) (l4 : Int32) (l5 : Int32) (l7 : Int32) (l9 : Int32) (s0 : Int32) (s1 : Int32) (μ : MS) : Option (((Nat × Int32 × Int32 × Int32 × Int32 × Int32 × MS) ⊕ MS)) :=
  (some (s1 + s0)).bind fun v237 =>
  (gI μ 12 l0 14).bind fun x240 =>
  if x240 ≤ 0 then
    f_X12_overlays_301 l0 l2 l4 l5 v237 l7 l9 μ
  else
    (gR μ 12 l0 17).bind fun x247 =>
    (aI μ 15 x247 l9).bind fun x252 =>
    if l7 < x252 then
      f_X12_overlays_301 l0 l2 l4 l5 v237 l7 l9 μ
    else
      (gR μ 12 l0 13).bind fun x259 =>
      (gI μ 12 l0 14).bind fun x263 =>
      (aI μ 15 x259 (x263 - 1)).bind fun x269 =>
      (gR μ 12 l0 18).bind fun x271 =>
      (aI μ 15 x271 l9).bind fun x276 =>
      if x276 ≤ l7 then
        f_X12_overlays_296 l0 l2 l4 l5 v237 l7 l9 0 x269 (x263 - 1) x259 μ
      else
        (gR μ 12 l0 18).bind fun x283 =>
        (aI μ 15 x283 l9).bind fun x288 =>
        f_X12_overlays_296 l0 l2 l4 l5 v237 l7 l9 (x288 - l7) x269 (x263 - 1) x259 μ
noncomputable def f_X12_overlays_221 (l0 : Nat) (l2 : Int32) (l4 : Int32) (l6 : Int32) (l7 : Int32) (l8 : Int32) (l9 : Int32) (s0 : Int32) (s1 : Int32) (μ : MS) : Option (((Nat × Int32 × Int32 × Int32 × Int32 × Int32 × MS) ⊕ MS)) :=
  (some (s1 + s0)).bind fun v222 =>
  if l8 = 0 then
    f_X12_overlays_236 l0 l2 l4 v222 l7 l9 1 l6 μ
  else
    f_X12_overlays_236 l0 l2 l4 v222 l7 l9 0 l6 μ
noncomputable def f_X12_overlays_207 (l0 : Nat) (l2 : Int32) (l4 : Int32) (l5 : Int32) (l6 : Int32) (l7 : Int32) (l8 : Int32) (s0 : Int32) (μ : MS) : Option (((Nat × Int32 × Int32 × Int32 × Int32 × Int32 × MS) ⊕ MS)) :=
  if l8 = 0 then
    f_X12_overlays_221 l0 l2 l4 l6 l7 l8 s0 0 l5 μ
  else
    f_X12_overlays_221 l0 l2 l4 l6 l7 l8 s0 1 l5 μ
noncomputable def f_X12_overlays_193 (l0 : Nat) (l2 : Int32) (l4 : Int32) (l5 : Int32) (l6 : Int32) (l7 : Int32) (s0 : Int32) (μ : MS) : Option (((Nat × Int32 × Int32 × Int32 × Int32 × Int32 × MS) ⊕ MS)) :=
  if s0 = 0 then
    f_X12_overlays_207 l0 l2 l4 l5 l6 l7 s0 l6 μ
  else
    f_X12_overlays_207 l0 l2 l4 l5 l6 l7 s0 l5 μ
noncomputable def f_X12_overlays_188 (l0 : Nat) (l2 : Int32) (l4 : Int32) (l5 : Int32) (l6 : Int32) (l7 : Int32) (μ : MS) : Option (((Nat × Int32 × Int32 × Int32 × Int32 × Int32 × MS) ⊕ MS)) :=
  f_X12_overlays_193 l0 l2 l4 l5 l6 l7 1 μ
noncomputable def f_X12_overlays_192 (l0 : Nat) (l2 : Int32) (l4 : Int32) (l5 : Int32) (l6 : Int32) (l7 : Int32) (μ : MS) : Option (((Nat × Int32 × Int32 × Int32 × Int32 × Int32 × MS) ⊕ MS)) :=
  f_X12_overlays_193 l0 l2 l4 l5 l6 l7 0 μ
noncomputable def f_X12_overlays_158 (l0 : Nat) (l2 : Int32) (l4 : Int32) (l5 : Int32) (l6 : Int32) (l7 : Int32) (μ : MS) : Option (((Nat × Int32 × Int32 × Int32 × Int32 × Int32 × MS) ⊕ MS)) :=
  if l6 = l4 then
    f_X12_overlays_188 l0 l2 l4 l5 l6 l7 μ
  else
    if l2 ≤ l5 then
      f_X12_overlays_192 l0 l2 l4 l5 l6 l7 μ
    else
      (gR μ 12 l0 17).bind fun x172 =>
      (aI μ 15 x172 l5).bind fun x177 =>
      (gR μ 12 l0 17).bind fun x179 =>
      (aI μ 15 x179 l6).bind fun x184 =>
      if x184 < x177 then
        f_X12_overlays_192 l0 l2 l4 l5 l6 l7 μ
      else
        f_X12_overlays_188 l0 l2 l4 l5 l6 l7 μ
noncomputable def f_X12_overlays_400  (μ : MS) : Option (MS) :=
  some μ
noncomputable def f_X12_overlays_145_b (l0 : Nat) (l2 : Int32) (l4 : Int32) (l5 : Int32) (l6 : Int32) (l7 : Int32) (μ : MS) : Option (((Nat × Int32 × Int32 × Int32 × Int32 × Int32 × MS) ⊕ MS)) :=
  if l5 < l2 then
    f_X12_overlays_158 l0 l2 l4 l5 l6 l7 μ
  else
    if l4 ≤ l6 then
      xr (f_X12_overlays_400 μ)
    else
      f_X12_overlays_158 l0 l2 l4 l5 l6 l7 μ
noncomputable def f_X12_overlays_145 (l0 : Nat) (l2 : Int32) (l4 : Int32) (l5 : Int32) (l6 : Int32) (l7 : Int32) (μ : MS) : Option (MS) := lp (fun s : Nat × Int32 × Int32 × Int32 × Int32 × Int32 × MS => f_X12_overlays_145_b s.1 s.2.1 s.2.2.1 s.2.2.2.1 s.2.2.2.2.1 s.2.2.2.2.2.1 s.2.2.2.2.2.2) (l0, l2, l4, l5, l6, l7, μ)
noncomputable def f_X12_overlays_131 (l0 : Nat) (l2 : Int32) (l4 : Int32) (μ : MS) : Option (MS) :=
  (pI μ 12 l0 14 0).bind fun m142 =>
  f_X12_overlays_145 l0 l2 l4 0 l2 0 m142
noncomputable def f_X12_overlays_115 (l0 : Nat) (l2 : Int32) (l3 : Int32) (l4 : Int32) (l5 : Int32) (μ : MS) : Option (((Nat × Int32 × Int32 × Int32 × Int32 × MS) ⊕ MS)) :=
  (gR μ 12 l0 15).bind fun x117 =>
  (aI μ 15 x117 l5).bind fun x122 =>
  (some (l3 + x122)).bind fun v124 =>
  (some (l5 + 1)).bind fun v125 =>
  some (.inl (l0, l2, v124, l4, v125, μ))
noncomputable def f_X12_overlays_72_b (l0 : Nat) (l2 : Int32) (l3 : Int32) (l4 : Int32) (l5 : Int32) (μ : MS) : Option (((Nat × Int32 × Int32 × Int32 × Int32 × MS) ⊕ MS)) :=
  (gI μ 12 l0 16).bind fun x75 =>
  if x75 ≤ l5 then
    xr (f_X12_overlays_131 l0 l2 l4 μ)
  else
    (rmI l5 2).bind fun v84 =>
    if v84 = 0 then
      (gR μ 12 l0 17).bind fun x89 =>
      (sI μ 15 x89 l4 l3).bind fun m95 =>
      (gR m95 12 l0 18).bind fun x97 =>
      (gR m95 12 l0 15).bind fun x104 =>
      (aI m95 15 x104 l5).bind fun x109 =>
      (sI m95 15 x97 l4 (l3 + x109)).bind fun m111 =>
      (some (l4 + 1)).bind fun v112 =>
      f_X12_overlays_115 l0 l2 l3 v112 l5 m111
    else
      f_X12_overlays_115 l0 l2 l3 l4 l5 μ
noncomputable def f_X12_overlays_72 (l0 : Nat) (l2 : Int32) (l3 : Int32) (l4 : Int32) (l5 : Int32) (μ : MS) : Option (MS) := lp (fun s : Nat × Int32 × Int32 × Int32 × Int32 × MS => f_X12_overlays_72_b s.1 s.2.1 s.2.2.1 s.2.2.2.1 s.2.2.2.2.1 s.2.2.2.2.2) (l0, l2, l3, l4, l5, μ)
noncomputable def f_X12_overlays_64 (l0 : Nat) (l1 : Int32) (l2 : Int32) (μ : MS) : Option (MS) :=
  f_X12_overlays_72 l0 l2 l1 l2 0 μ
noncomputable def f_X12_overlays_48 (l0 : Nat) (l1 : Int32) (l2 : Int32) (l3 : Int32) (l4 : Int32) (μ : MS) : Option (((Nat × Int32 × Int32 × Int32 × Int32 × MS) ⊕ MS)) :=
  (gR μ 12 l0 13).bind fun x50 =>
  (aI μ 15 x50 l4).bind fun x55 =>
  (some (l3 + x55)).bind fun v57 =>
  (some (l4 + 1)).bind fun v58 =>
  some (.inl (l0, l1, l2, v57, v58, μ))
noncomputable def f_X12_overlays_7_b (l0 : Nat) (l1 : Int32) (l2 : Int32) (l3 : Int32) (l4 : Int32) (μ : MS) : Option (((Nat × Int32 × Int32 × Int32 × Int32 × MS) ⊕ MS)) :=
  (gI μ 12 l0 14).bind fun x10 =>
  if x10 ≤ l4 then
    xr (f_X12_overlays_64 l0 l1 l2 μ)
  else
    (rmI l4 2).bind fun v19 =>
    if v19 = 0 then
      (gR μ 12 l0 17).bind fun x24 =>
      (sI μ 15 x24 l2 l3).bind fun m29 =>
      (gR m29 12 l0 18).bind fun x31 =>
      (gR m29 12 l0 13).bind fun x37 =>
      (aI m29 15 x37 l4).bind fun x42 =>
      (sI m29 15 x31 l2 (l3 + x42)).bind fun m44 =>
      (some (l2 + 1)).bind fun v45 =>
      f_X12_overlays_48 l0 l1 v45 l3 l4 m44
    else
      f_X12_overlays_48 l0 l1 l2 l3 l4 μ
noncomputable def f_X12_overlays_7 (l0 : Nat) (l1 : Int32) (l2 : Int32) (l3 : Int32) (l4 : Int32) (μ : MS) : Option (MS) := lp (fun s : Nat × Int32 × Int32 × Int32 × Int32 × MS => f_X12_overlays_7_b s.1 s.2.1 s.2.2.1 s.2.2.2.1 s.2.2.2.2.1 s.2.2.2.2.2) (l0, l1, l2, l3, l4, μ)
noncomputable def f_X12_overlays (l0 : Nat) (l1 : Int32) (μ : MS) : Option (MS) :=
  f_X12_overlays_7 l0 l1 0 0 0 μ
-- PulseRemoteModel.overlay(III)I
noncomputable def f_X12_overlay_238 (l0 : Nat) (μ : MS) : Option ((Int32 × MS)) :=
  (gI μ 12 l0 14).bind fun x239 =>
  some (x239, μ)
noncomputable def f_X12_overlay_204_b (l0 : Nat) (l1 : Int32) (l5 : Int32) (μ : MS) : Option (((Nat × Int32 × Int32 × MS) ⊕ (Int32 × MS))) :=
  (gI μ 12 l0 14).bind fun x207 =>
  if x207 ≤ l5 then
    xr (f_X12_overlay_238 l0 μ)
  else
    (gR μ 12 l0 0).bind fun x214 =>
    (f_X12_trainAt l1 μ).bind fun z218 =>
    (gR z218.2 12 l0 13).bind fun x225 =>
    (aI z218.2 15 x225 l5).bind fun x230 =>
    (sI z218.2 15 x214 (z218.1 + l5) x230).bind fun m231 =>
    (some (l5 + 1)).bind fun v232 =>
    some (.inl (l0, l1, v232, m231))
noncomputable def f_X12_overlay_204 (l0 : Nat) (l1 : Int32) (l5 : Int32) (μ : MS) : Option ((Int32 × MS)) := lp (fun s : Nat × Int32 × Int32 × MS => f_X12_overlay_204_b s.1 s.2.1 s.2.2.1 s.2.2.2) (l0, l1, l5, μ)
noncomputable def f_X12_overlay_176 (l0 : Nat) (l1 : Int32) (l4 : Int32) (μ : MS) : Option ((Int32 × MS)) :=
  if l4 = 0 then
    (isO μ 12 l0 (f_X12_note l0 μ)).bind fun z185 =>
    (gR z185 12 l0 0).bind fun x189 =>
    (gI z185 12 l0 14).bind fun x197 =>
    (sI z185 15 x189 (83 + l1) x197).bind fun m200 =>
    f_X12_overlay_204 l0 l1 0 m200
  else
    some ((-3), μ)
noncomputable def f_X12_overlay_168 (l0 : Nat) (l1 : Int32) (l5 : Int32) (s0 : Int32) (μ : MS) : Option (((Nat × Int32 × Int32 × Int32 × MS) ⊕ (Int32 × MS))) :=
  (some (l5 + 1)).bind fun v170 =>
  some (.inl (l0, l1, s0, v170, μ))
noncomputable def f_X12_overlay_163 (l0 : Nat) (l1 : Int32) (l5 : Int32) (μ : MS) : Option (((Nat × Int32 × Int32 × Int32 × MS) ⊕ (Int32 × MS))) :=
  f_X12_overlay_168 l0 l1 l5 1 μ
noncomputable def f_X12_overlay_137_b (l0 : Nat) (l1 : Int32) (l4 : Int32) (l5 : Int32) (μ : MS) : Option (((Nat × Int32 × Int32 × Int32 × MS) ⊕ (Int32 × MS))) :=
  (gI μ 12 l0 14).bind fun x140 =>
  if x140 ≤ l5 then
    xr (f_X12_overlay_176 l0 l1 l4 μ)
  else
    if l4 = 0 then
      (gR μ 12 l0 13).bind fun x152 =>
      (aI μ 15 x152 l5).bind fun x157 =>
      if x157 ≤ 60000 then
        f_X12_overlay_168 l0 l1 l5 0 μ
      else
        f_X12_overlay_163 l0 l1 l5 μ
    else
      f_X12_overlay_163 l0 l1 l5 μ
noncomputable def f_X12_overlay_137 (l0 : Nat) (l1 : Int32) (l4 : Int32) (l5 : Int32) (μ : MS) : Option ((Int32 × MS)) := lp (fun s : Nat × Int32 × Int32 × Int32 × MS => f_X12_overlay_137_b s.1 s.2.1 s.2.2.1 s.2.2.2.1 s.2.2.2.2) (l0, l1, l4, l5, μ)
noncomputable def f_X12_overlay_132 (l0 : Nat) (l1 : Int32) (s0 : Int32) (μ : MS) : Option ((Int32 × MS)) :=
  f_X12_overlay_137 l0 l1 s0 0 μ
noncomputable def f_X12_overlay_107 (l0 : Nat) (l1 : Int32) (l3 : Int32) (μ : MS) : Option ((Int32 × MS)) :=
  (isO μ 12 l0 (f_X12_looksAt l0 l1 μ)).bind fun z109 =>
  (isO z109 12 l0 (f_X12_overlays l0 l3 z109)).bind fun z114 =>
  (gI z114 12 l0 14).bind fun x118 =>
  if x118 ≤ 200 then
    f_X12_overlay_132 l0 l1 0 z114
  else
    f_X12_overlay_132 l0 l1 1 z114
noncomputable def f_X12_overlay_78_b (l0 : Nat) (l1 : Int32) (l3 : Int32) (l4 : Int32) (μ : MS) : Option (((Nat × Int32 × Int32 × Int32 × MS) ⊕ (Int32 × MS))) :=
  (gI μ 12 l0 14).bind fun x81 =>
  if x81 ≤ l4 then
    xr (f_X12_overlay_107 l0 l1 l3 μ)
  else
    (gR μ 12 l0 15).bind fun x88 =>
    (gR μ 12 l0 13).bind fun x94 =>
    (aI μ 15 x94 l4).bind fun x99 =>
    (sI μ 15 x88 l4 x99).bind fun m100 =>
    (some (l4 + 1)).bind fun v101 =>
    some (.inl (l0, l1, l3, v101, m100))
noncomputable def f_X12_overlay_78 (l0 : Nat) (l1 : Int32) (l3 : Int32) (l4 : Int32) (μ : MS) : Option ((Int32 × MS)) := lp (fun s : Nat × Int32 × Int32 × Int32 × MS => f_X12_overlay_78_b s.1 s.2.1 s.2.2.1 s.2.2.2.1 s.2.2.2.2) (l0, l1, l3, l4, μ)
noncomputable def f_X12_overlay (l0 : Nat) (l1 : Int32) (l2 : Int32) (l3 : Int32) (μ : MS) : Option ((Int32 × MS)) :=
  (f_X12_isSlot l1 μ).bind fun z1 =>
  if z1.1 = 0 then
    some ((-1), z1.2)
  else
    (f_X12_isSlot l2 z1.2).bind fun z8 =>
    if z8.1 = 0 then
      some ((-1), z8.2)
    else
      if l1 = l2 then
        some ((-1), z8.2)
      else
        (f_X12_in l3 0 60000 z8.2).bind fun z23 =>
        if z23.1 = 0 then
          some ((-1), z23.2)
        else
          (gR z23.2 12 l0 0).bind fun x32 =>
          (aI z23.2 15 x32 (83 + l1)).bind fun x39 =>
          (rmI x39 2).bind fun v41 =>
          if v41 = 0 then
            some ((-2), z23.2)
          else
            (gR z23.2 12 l0 0).bind fun x46 =>
            (aI z23.2 15 x46 (83 + l2)).bind fun x53 =>
            (rmI x53 2).bind fun v55 =>
            if v55 = 0 then
              some ((-2), z23.2)
            else
              (isO z23.2 12 l0 (f_X12_looksAt l0 l2 z23.2)).bind fun z64 =>
              (gI z64 12 l0 14).bind fun x69 =>
              (pI z64 12 l0 16 x69).bind fun m72 =>
              f_X12_overlay_78 l0 l1 l3 0 m72
-- PulseRemoteModel.floor(II)I
noncomputable def f_X12_floor (l0 : Int32) (l1 : Int32) (μ : MS) : Option ((Int32 × MS)) :=
  if l0 < 0 then
    (dvI (((-l0) + l1) - 1) l1).bind fun v17 =>
    some (-v17, μ)
  else
    (dvI l0 l1).bind fun v6 =>
    some (v6, μ)
-- PulseRemoteModel.distort(III)I
noncomputable def f_X12_distort_164 (l4 : Int32) (μ : MS) : Option ((Int32 × MS)) :=
  some (l4, μ)
noncomputable def f_X12_distort_155 (l0 : Nat) (l1 : Int32) (l2 : Int32) (l3 : Int32) (l5 : Int32) (s0 : Int32) (s1 : Int32) (μ : MS) : Option (((Nat × Int32 × Int32 × Int32 × Int32 × Int32 × MS) ⊕ (Int32 × MS))) :=
  (some (s1 + s0)).bind fun v156 =>
  (some (l5 + 1)).bind fun v158 =>
  some (.inl (l0, l1, l2, l3, v156, v158, μ))
noncomputable def f_X12_distort_125 (l0 : Nat) (l1 : Int32) (l2 : Int32) (l3 : Int32) (l4 : Int32) (l5 : Int32) (l7 : Int32) (s0 : Int32) (μ : MS) : Option (((Nat × Int32 × Int32 × Int32 × Int32 × Int32 × MS) ⊕ (Int32 × MS))) :=
  (gR μ 12 l0 0).bind fun x128 =>
  (f_X12_trainAt l1 μ).bind fun z132 =>
  (sI z132.2 15 x128 (z132.1 + l5) s0).bind fun m140 =>
  if s0 = l7 then
    f_X12_distort_155 l0 l1 l2 l3 l5 0 l4 m140
  else
    f_X12_distort_155 l0 l1 l2 l3 l5 1 l4 m140
noncomputable def f_X12_distort_69 (l0 : Nat) (l1 : Int32) (l2 : Int32) (l3 : Int32) (l4 : Int32) (l5 : Int32) (s0 : Int32) (s1 : Int32) (μ : MS) : Option (((Nat × Int32 × Int32 × Int32 × Int32 × Int32 × MS) ⊕ (Int32 × MS))) :=
  (some (s1 * s0)).bind fun v70 =>
  (gR μ 12 l0 0).bind fun x73 =>
  (f_X12_trainAt l1 μ).bind fun z77 =>
  (aI z77.2 15 x73 (z77.1 + l5)).bind fun x83 =>
  (f_X12_floor (x83 * v70) 100 z77.2).bind fun z95 =>
  (some (x83 + z95.1)).bind fun v99 =>
  if 1 ≤ v99 then
    if v99 ≤ 60000 then
      f_X12_distort_125 l0 l1 l2 l3 l4 l5 x83 v99 z95.2
    else
      f_X12_distort_125 l0 l1 l2 l3 l4 l5 x83 60000 z95.2
  else
    f_X12_distort_125 l0 l1 l2 l3 l4 l5 x83 1 z95.2
noncomputable def f_X12_distort_38_b (l0 : Nat) (l1 : Int32) (l2 : Int32) (l3 : Int32) (l4 : Int32) (l5 : Int32) (μ : MS) : Option (((Nat × Int32 × Int32 × Int32 × Int32 × Int32 × MS) ⊕ (Int32 × MS))) :=
  (gR μ 12 l0 0).bind fun x41 =>
  (aI μ 15 x41 (83 + l1)).bind fun x48 =>
  if x48 ≤ l5 then
    xr (f_X12_distort_164 l4 μ)
  else
    (rmI l5 3).bind fun v55 =>
    if l3 = 1 then
      f_X12_distort_69 l0 l1 l2 l3 l4 l5 (-l2) (v55 - 1) μ
    else
      f_X12_distort_69 l0 l1 l2 l3 l4 l5 l2 (v55 - 1) μ
noncomputable def f_X12_distort_38 (l0 : Nat) (l1 : Int32) (l2 : Int32) (l3 : Int32) (l4 : Int32) (l5 : Int32) (μ : MS) : Option ((Int32 × MS)) := lp (fun s : Nat × Int32 × Int32 × Int32 × Int32 × Int32 × MS => f_X12_distort_38_b s.1 s.2.1 s.2.2.1 s.2.2.2.1 s.2.2.2.2.1 s.2.2.2.2.2.1 s.2.2.2.2.2.2) (l0, l1, l2, l3, l4, l5, μ)
noncomputable def f_X12_distort (l0 : Nat) (l1 : Int32) (l2 : Int32) (l3 : Int32) (μ : MS) : Option ((Int32 × MS)) :=
  (f_X12_isSlot l1 μ).bind fun z1 =>
  if z1.1 = 0 then
    some ((-1), z1.2)
  else
    (f_X12_in l2 0 30 z1.2).bind fun z11 =>
    if z11.1 = 0 then
      some ((-1), z11.2)
    else
      (f_X12_in l3 0 1 z11.2).bind fun z20 =>
      if z20.1 = 0 then
        some ((-1), z20.2)
      else
        (isO z20.2 12 l0 (f_X12_note l0 z20.2)).bind fun z29 =>
        f_X12_distort_38 l0 l1 l2 l3 0 0 z29
-- PulseRemoteModel.duration(II)I
noncomputable def f_X12_duration (l0 : Nat) (l1 : Int32) (l2 : Int32) (μ : MS) : Option ((Int32 × MS)) :=
  (f_X12_isSlot l1 μ).bind fun z1 =>
  if z1.1 = 0 then
    some ((-1), z1.2)
  else
    if 0 ≤ l2 then
      (gR z1.2 12 l0 0).bind fun x15 =>
      (aI z1.2 15 x15 (83 + l1)).bind fun x22 =>
      if x22 ≤ l2 then
        some ((-9), z1.2)
      else
        (gR z1.2 12 l0 0).bind fun x27 =>
        (f_X12_trainAt l1 z1.2).bind fun z31 =>
        (aI z31.2 15 x27 (z31.1 + l2)).bind fun x36 =>
        some (x36, z31.2)
    else
      some ((-1), z1.2)
-- PulseRemoteModel.length(I)I
noncomputable def f_X12_length (l0 : Nat) (l1 : Int32) (μ : MS) : Option ((Int32 × MS)) :=
  (f_X12_isSlot l1 μ).bind fun z1 =>
  if z1.1 = 0 then
    some ((-1), z1.2)
  else
    (gR z1.2 12 l0 0).bind fun x8 =>
    (aI z1.2 15 x8 (83 + l1)).bind fun x15 =>
    some (x15, z1.2)
-- PulseRemoteModel.findsFrames()V
noncomputable def f_X12_findsFrames_94  (μ : MS) : Option (MS) :=
  some μ
noncomputable def f_X12_findsFrames_88 (l0 : Nat) (l1 : Int32) (l2 : Int32) (μ : MS) : Option (((Nat × Int32 × Int32 × MS) ⊕ MS)) :=
  (some (l2 + 2)).bind fun v88 =>
  some (.inl (l0, l1, v88, μ))
noncomputable def f_X12_findsFrames_47 (l0 : Nat) (l1 : Int32) (l2 : Int32) (s0 : Int32) (μ : MS) : Option (((Nat × Int32 × Int32 × MS) ⊕ MS)) :=
  if s0 = 0 then
    f_X12_findsFrames_88 l0 l1 l2 μ
  else
    (gR μ 12 l0 19).bind fun x53 =>
    (gI μ 12 l0 21).bind fun x57 =>
    (sI μ 15 x53 x57 l1).bind fun m61 =>
    (gR m61 12 l0 20).bind fun x63 =>
    (gI m61 12 l0 21).bind fun x67 =>
    (sI m61 15 x63 x67 (l2 - l1)).bind fun m73 =>
    (gI m73 12 l0 21).bind fun x76 =>
    (pI m73 12 l0 21 (x76 + 1)).bind fun m81 =>
    (some (l2 + 1)).bind fun v87 =>
    f_X12_findsFrames_88 l0 v87 l2 m81
noncomputable def f_X12_findsFrames_42 (l0 : Nat) (l1 : Int32) (l2 : Int32) (μ : MS) : Option (((Nat × Int32 × Int32 × MS) ⊕ MS)) :=
  f_X12_findsFrames_47 l0 l1 l2 1 μ
noncomputable def f_X12_findsFrames_9_b (l0 : Nat) (l1 : Int32) (l2 : Int32) (μ : MS) : Option (((Nat × Int32 × Int32 × MS) ⊕ MS)) :=
  (gI μ 12 l0 14).bind fun x11 =>
  if x11 < l2 then
    xr (f_X12_findsFrames_94 μ)
  else
    (gI μ 12 l0 14).bind fun x19 =>
    if (x19 - 1) ≤ l2 then
      f_X12_findsFrames_42 l0 l1 l2 μ
    else
      (gR μ 12 l0 13).bind fun x28 =>
      (aI μ 15 x28 l2).bind fun x32 =>
      (gR μ 12 l0 0).bind fun x34 =>
      (aI μ 15 x34 0).bind fun x38 =>
      if x32 ≤ x38 then
        f_X12_findsFrames_47 l0 l1 l2 0 μ
      else
        f_X12_findsFrames_42 l0 l1 l2 μ
noncomputable def f_X12_findsFrames_9 (l0 : Nat) (l1 : Int32) (l2 : Int32) (μ : MS) : Option (MS) := lp (fun s : Nat × Int32 × Int32 × MS => f_X12_findsFrames_9_b s.1 s.2.1 s.2.2.1 s.2.2.2) (l0, l1, l2, μ)
noncomputable def f_X12_findsFrames (l0 : Nat) (μ : MS) : Option (MS) :=
  (pI μ 12 l0 21 0).bind fun m2 =>
  f_X12_findsFrames_9 l0 0 1 m2
-- PulseRemoteModel.matches(II)Z
noncomputable def f_X12_matches_14 (l0 : Nat) (l2 : Int32) (s0 : Int32) (μ : MS) : Option ((Int32 × MS)) :=
  (gI μ 12 l0 22).bind fun x24 =>
  if 0 < (lg_cmp (100 * s0.toInt64) (l2.toInt64 * x24.toInt64)) then
    some (0, μ)
  else
    some (1, μ)
noncomputable def f_X12_matches (l0 : Nat) (l1 : Int32) (l2 : Int32) (μ : MS) : Option ((Int32 × MS)) :=
  if l1 ≤ l2 then
    f_X12_matches_14 l0 l2 (l2 - l1) μ
  else
    f_X12_matches_14 l0 l2 (l1 - l2) μ
-- PulseRemoteModel.match(III)Z
noncomputable def f_X12_match_45 (l4 : Int32) (μ : MS) : Option ((Int32 × MS)) :=
  rZ l4 μ
noncomputable def f_X12_match_37 (l0 : Nat) (l2 : Int32) (l3 : Int32) (l5 : Int32) (s0 : Int32) (μ : MS) : Option (((Nat × Int32 × Int32 × Int32 × Int32 × MS) ⊕ (Int32 × MS))) :=
  (some (l5 + 2)).bind fun v39 =>
  some (.inl (l0, l2, l3, s0, v39, μ))
noncomputable def f_X12_match_36 (l0 : Nat) (l2 : Int32) (l3 : Int32) (l5 : Int32) (μ : MS) : Option (((Nat × Int32 × Int32 × Int32 × Int32 × MS) ⊕ (Int32 × MS))) :=
  f_X12_match_37 l0 l2 l3 l5 0 μ
noncomputable def f_X12_match_6_b (l0 : Nat) (l2 : Int32) (l3 : Int32) (l4 : Int32) (l5 : Int32) (μ : MS) : Option (((Nat × Int32 × Int32 × Int32 × Int32 × MS) ⊕ (Int32 × MS))) :=
  if l2 ≤ l5 then
    xr (f_X12_match_45 l4 μ)
  else
    if l4 = 0 then
      f_X12_match_36 l0 l2 l3 l5 μ
    else
      (gR μ 12 l0 13).bind fun x19 =>
      (aI μ 15 x19 l5).bind fun x24 =>
      (isO μ 12 l0 (f_X12_matches l0 x24 l3 μ)).bind fun z26 =>
      if z26.1 = 0 then
        f_X12_match_36 l0 l2 l3 l5 z26.2
      else
        f_X12_match_37 l0 l2 l3 l5 1 z26.2
noncomputable def f_X12_match_6 (l0 : Nat) (l2 : Int32) (l3 : Int32) (l4 : Int32) (l5 : Int32) (μ : MS) : Option ((Int32 × MS)) := lp (fun s : Nat × Int32 × Int32 × Int32 × Int32 × MS => f_X12_match_6_b s.1 s.2.1 s.2.2.1 s.2.2.2.1 s.2.2.2.2.1 s.2.2.2.2.2) (l0, l2, l3, l4, l5, μ)
noncomputable def f_X12_match (l0 : Nat) (l1 : Int32) (l2 : Int32) (l3 : Int32) (μ : MS) : Option ((Int32 × MS)) :=
  f_X12_match_6 l0 l2 l3 1 l1 μ
-- PulseRemoteModel.ordered(II)I
noncomputable def f_X12_ordered_78 (l3 : Int32) (μ : MS) : Option ((Int32 × MS)) :=
  some (l3, μ)
noncomputable def f_X12_ordered_69 (l0 : Nat) (l1 : Int32) (l2 : Int32) (l4 : Int32) (l5 : Int32) (s0 : Int32) (s1 : Int32) (s2 : Int32) (μ : MS) : Option (((Nat × Int32 × Int32 × Int32 × Int32 × Int32 × MS) ⊕ (Int32 × MS))) :=
  (some (s2 ||| (s1 <<< (s0 &&& 31)))).bind fun v71 =>
  (some (l5 + 1)).bind fun v72 =>
  some (.inl (l0, l1, l2, v71, l4, v72, μ))
noncomputable def f_X12_ordered_19_b (l0 : Nat) (l1 : Int32) (l2 : Int32) (l3 : Int32) (l4 : Int32) (l5 : Int32) (μ : MS) : Option (((Nat × Int32 × Int32 × Int32 × Int32 × Int32 × MS) ⊕ (Int32 × MS))) :=
  if l4 ≤ l5 then
    xr (f_X12_ordered_78 l3 μ)
  else
    (some ((l2 >>> (((l4 - 1) - l5) &&& 31)) &&& 1)).bind fun v37 =>
    (gR μ 12 l0 0).bind fun x43 =>
    (f_X12_at l1 μ).bind fun z47 =>
    (aI z47.2 15 x43 (z47.1 + 7)).bind fun x53 =>
    if x53 = 0 then
      f_X12_ordered_69 l0 l1 l2 l4 l5 ((l4 - 1) - l5) v37 l3 z47.2
    else
      f_X12_ordered_69 l0 l1 l2 l4 l5 l5 v37 l3 z47.2
noncomputable def f_X12_ordered_19 (l0 : Nat) (l1 : Int32) (l2 : Int32) (l3 : Int32) (l4 : Int32) (l5 : Int32) (μ : MS) : Option ((Int32 × MS)) := lp (fun s : Nat × Int32 × Int32 × Int32 × Int32 × Int32 × MS => f_X12_ordered_19_b s.1 s.2.1 s.2.2.1 s.2.2.2.1 s.2.2.2.2.1 s.2.2.2.2.2.1 s.2.2.2.2.2.2) (l0, l1, l2, l3, l4, l5, μ)
noncomputable def f_X12_ordered (l0 : Nat) (l1 : Int32) (l2 : Int32) (μ : MS) : Option ((Int32 × MS)) :=
  (gR μ 12 l0 0).bind fun x3 =>
  (f_X12_at l1 μ).bind fun z7 =>
  (aI z7.2 15 x3 (z7.1 + 6)).bind fun x13 =>
  f_X12_ordered_19 l0 l1 l2 0 x13 0 z7.2
-- PulseRemoteModel.readsBits(II)I
noncomputable def f_X12_readsBits_105 (l3 : Int32) (μ : MS) : Option ((Int32 × MS)) :=
  some (l3, μ)
noncomputable def f_X12_readsBits_98 (l0 : Nat) (l1 : Int32) (l2 : Int32) (l4 : Int32) (s0 : Int32) (μ : MS) : Option (((Nat × Int32 × Int32 × Int32 × Int32 × MS) ⊕ (Int32 × MS))) :=
  (some (l4 + 1)).bind fun v99 =>
  some (.inl (l0, l1, l2, s0, v99, μ))
noncomputable def f_X12_readsBits_5_b (l0 : Nat) (l1 : Int32) (l2 : Int32) (l3 : Int32) (l4 : Int32) (μ : MS) : Option (((Nat × Int32 × Int32 × Int32 × Int32 × MS) ⊕ (Int32 × MS))) :=
  (gR μ 12 l0 0).bind fun x8 =>
  (f_X12_at l1 μ).bind fun z12 =>
  (aI z12.2 15 x8 (z12.1 + 6)).bind fun x18 =>
  if x18 ≤ l4 then
    xr (f_X12_readsBits_105 l3 z12.2)
  else
    if l3 < 0 then
      xr (f_X12_readsBits_105 l3 z12.2)
    else
      (gR z12.2 12 l0 13).bind fun x27 =>
      (aI z12.2 15 x27 (l2 + (2 * l4))).bind fun x36 =>
      (gR z12.2 12 l0 0).bind fun x43 =>
      (f_X12_at l1 z12.2).bind fun z47 =>
      (aI z47.2 15 x43 (z47.1 + 4)).bind fun x52 =>
      (isO z47.2 12 l0 (f_X12_matches l0 x36 x52 z47.2)).bind fun z53 =>
      if z53.1 = 0 then
        (gR z53.2 12 l0 0).bind fun x73 =>
        (f_X12_at l1 z53.2).bind fun z77 =>
        (aI z77.2 15 x73 (z77.1 + 5)).bind fun x82 =>
        (isO z77.2 12 l0 (f_X12_matches l0 x36 x82 z77.2)).bind fun z83 =>
        if z83.1 = 0 then
          f_X12_readsBits_98 l0 l1 l2 l4 ((-1)) z83.2
        else
          f_X12_readsBits_98 l0 l1 l2 l4 ((2 * l3) + 1) z83.2
      else
        f_X12_readsBits_98 l0 l1 l2 l4 (2 * l3) z53.2
noncomputable def f_X12_readsBits_5 (l0 : Nat) (l1 : Int32) (l2 : Int32) (l3 : Int32) (l4 : Int32) (μ : MS) : Option ((Int32 × MS)) := lp (fun s : Nat × Int32 × Int32 × Int32 × Int32 × MS => f_X12_readsBits_5_b s.1 s.2.1 s.2.2.1 s.2.2.2.1 s.2.2.2.2.1 s.2.2.2.2.2) (l0, l1, l2, l3, l4, μ)
noncomputable def f_X12_readsBits (l0 : Nat) (l1 : Int32) (l2 : Int32) (μ : MS) : Option ((Int32 × MS)) :=
  f_X12_readsBits_5 l0 l1 l2 0 0 μ
-- PulseRemoteModel.goesOn(IIIIII)I
noncomputable def f_X12_goesOn (l0 : Nat) (l1 : Int32) (l2 : Int32) (l3 : Int32) (l4 : Int32) (l5 : Int32) (l6 : Int32) (μ : MS) : Option ((Int32 × MS)) :=
  (gR μ 12 l0 0).bind fun x1 =>
  (f_X12_at l1 μ).bind fun z5 =>
  (aI z5.2 15 x1 (z5.1 + 3)).bind fun x10 =>
  (gR z5.2 12 l0 0).bind fun x14 =>
  (f_X12_at l1 z5.2).bind fun z18 =>
  (aI z18.2 15 x14 (z18.1 + 2)).bind fun x23 =>
  if l3 = 0 then
    if l6 = 0 then
      (gR z18.2 12 l0 13).bind fun x37 =>
      (aI z18.2 15 x37 (l2 + 1)).bind fun x43 =>
      (isO z18.2 12 l0 (f_X12_matches l0 x43 (x23 + x10) z18.2)).bind fun z49 =>
      if z49.1 = 0 then
        some ((-1), z49.2)
      else
        some (2, z49.2)
    else
      (gR z18.2 12 l0 13).bind fun x63 =>
      (aI z18.2 15 x63 (l2 + 1)).bind fun x69 =>
      (isO z18.2 12 l0 (f_X12_matches l0 x69 x23 z18.2)).bind fun z72 =>
      if z72.1 = 0 then
        some ((-1), z72.2)
      else
        (gR z72.2 12 l0 13).bind fun x80 =>
        (aI z72.2 15 x80 (l2 + 2)).bind fun x86 =>
        (isO z72.2 12 l0 (f_X12_matches l0 x86 x10 z72.2)).bind fun z89 =>
        if z89.1 = 0 then
          some ((-1), z89.2)
        else
          some (3, z89.2)
  else
    if l5 = l6 then
      (gR z18.2 12 l0 13).bind fun x139 =>
      (aI z18.2 15 x139 (l2 + l4)).bind fun x146 =>
      (isO z18.2 12 l0 (f_X12_matches l0 x146 x10 z18.2)).bind fun z149 =>
      if z149.1 = 0 then
        some ((-1), z149.2)
      else
        (gR z149.2 12 l0 13).bind fun x157 =>
        (aI z149.2 15 x157 ((l2 + l4) + 1)).bind fun x166 =>
        (isO z149.2 12 l0 (f_X12_matches l0 x166 x10 z149.2)).bind fun z169 =>
        if z169.1 = 0 then
          some ((-1), z169.2)
        else
          some (l4 + 2, z169.2)
    else
      (gR z18.2 12 l0 13).bind fun x110 =>
      (aI z18.2 15 x110 (l2 + l4)).bind fun x117 =>
      (isO z18.2 12 l0 (f_X12_matches l0 x117 (2 * x10) z18.2)).bind fun z122 =>
      if z122.1 = 0 then
        some ((-1), z122.2)
      else
        some (l4 + 1, z122.2)
-- PulseRemoteModel.isWhole(IIIII)Z
noncomputable def f_X12_isWhole (l0 : Nat) (l1 : Int32) (l2 : Int32) (l3 : Int32) (l4 : Int32) (l5 : Int32) (μ : MS) : Option ((Int32 × MS)) :=
  if l5 = 1 then
    if l4 = l3 then
      some (1, μ)
    else
      some (0, μ)
  else
    if l4 = (l3 - 1) then
      (gR μ 12 l0 13).bind fun x30 =>
      (aI μ 15 x30 (l2 + l4)).bind fun x37 =>
      (gR μ 12 l0 0).bind fun x39 =>
      (f_X12_at l1 μ).bind fun z43 =>
      (aI z43.2 15 x39 (z43.1 + 3)).bind fun x48 =>
      (isO z43.2 12 l0 (f_X12_matches l0 x37 x48 z43.2)).bind fun z49 =>
      if z49.1 = 0 then
        some (0, z49.2)
      else
        some (1, z49.2)
    else
      some (0, μ)
-- PulseRemoteModel.dead(III)I
noncomputable def f_X12_dead (l0 : Int32) (l1 : Int32) (l2 : Int32) (μ : MS) : Option ((Int32 × MS)) :=
  some (((80 * l0) + (2 * l1)) + l2, μ)
-- PulseRemoteModel.readsPhase(III)I
noncomputable def f_X12_readsPhase_396  (μ : MS) : Option ((Int32 × MS)) :=
  some ((-1), μ)
noncomputable def f_X12_readsPhase_393 (l0 : Nat) (l1 : Int32) (l2 : Int32) (l3 : Int32) (l4 : Int32) (l5 : Int32) (μ : MS) : Option (((Nat × Int32 × Int32 × Int32 × Int32 × Int32 × MS) ⊕ (Int32 × MS))) :=
  some (.inl (l0, l1, l2, l3, l4, l5, μ))
noncomputable def f_X12_readsPhase_181 (l7 : Int32) (μ : MS) : Option ((Int32 × MS)) :=
  some (l7, μ)
noncomputable def f_X12_readsPhase_154_b (l0 : Nat) (l4 : Int32) (l7 : Int32) (l8 : Int32) (μ : MS) : Option (((Nat × Int32 × Int32 × Int32 × MS) ⊕ (Int32 × MS))) :=
  if l4 ≤ l8 then
    xr (f_X12_readsPhase_181 l7 μ)
  else
    (gR μ 12 l0 24).bind fun x166 =>
    (aI μ 15 x166 l8).bind fun x171 =>
    (some ((2 * l7) + x171)).bind fun v173 =>
    (some (l8 + 1)).bind fun v175 =>
    some (.inl (l0, l4, v173, v175, μ))
noncomputable def f_X12_readsPhase_154 (l0 : Nat) (l4 : Int32) (l7 : Int32) (l8 : Int32) (μ : MS) : Option ((Int32 × MS)) := lp (fun s : Nat × Int32 × Int32 × Int32 × MS => f_X12_readsPhase_154_b s.1 s.2.1 s.2.2.1 s.2.2.2.1 s.2.2.2.2) (l0, l4, l7, l8, μ)
noncomputable def f_X12_readsPhase_148 (l0 : Nat) (l4 : Int32) (μ : MS) : Option ((Int32 × MS)) :=
  f_X12_readsPhase_154 l0 l4 0 0 μ
noncomputable def f_X12_readsPhase_329 (l0 : Nat) (l1 : Int32) (l2 : Int32) (l3 : Int32) (l4 : Int32) (l5 : Int32) (s0 : Int32) (μ : MS) : Option (((Nat × Int32 × Int32 × Int32 × Int32 × Int32 × MS) ⊕ (Int32 × MS))) :=
  if s0 < 0 then
    f_X12_readsPhase_393 l0 l1 l2 l3 l4 l5 μ
  else
    if l3 < s0 then
      f_X12_readsPhase_393 l0 l1 l2 l3 l4 l5 μ
    else
      (gR μ 12 l0 23).bind fun x343 =>
      (gR μ 12 l0 24).bind fun x353 =>
      (aI μ 15 x353 l5).bind fun x358 =>
      (f_X12_dead (l5 + 1) s0 x358 μ).bind fun z359 =>
      (aI z359.2 17 x343 z359.1).bind fun x362 =>
      if x362 = 0 then
        (some (l5 + 1)).bind fun v366 =>
        (gR z359.2 12 l0 25).bind fun x370 =>
        (sI z359.2 15 x370 v366 s0).bind fun m377 =>
        if l4 ≤ v366 then
          f_X12_readsPhase_393 l0 l1 l2 l3 l4 v366 m377
        else
          (gR m377 12 l0 24).bind fun x386 =>
          (sI m377 15 x386 v366 ((-1))).bind fun m392 =>
          f_X12_readsPhase_393 l0 l1 l2 l3 l4 v366 m392
      else
        f_X12_readsPhase_393 l0 l1 l2 l3 l4 l5 z359.2
noncomputable def f_X12_readsPhase_301 (l0 : Nat) (l1 : Int32) (l2 : Int32) (l3 : Int32) (l4 : Int32) (l5 : Int32) (l6 : Int32) (μ : MS) : Option (((Nat × Int32 × Int32 × Int32 × Int32 × Int32 × MS) ⊕ (Int32 × MS))) :=
  (gR μ 12 l0 25).bind fun x307 =>
  (aI μ 15 x307 l5).bind fun x312 =>
  (gR μ 12 l0 24).bind fun x316 =>
  (aI μ 15 x316 l5).bind fun x321 =>
  (isO μ 12 l0 (f_X12_goesOn l0 l1 l2 l5 x312 l6 x321 μ)).bind fun z322 =>
  f_X12_readsPhase_329 l0 l1 l2 l3 l4 l5 z322.1 z322.2
noncomputable def f_X12_readsPhase_328 (l0 : Nat) (l1 : Int32) (l2 : Int32) (l3 : Int32) (l4 : Int32) (l5 : Int32) (μ : MS) : Option (((Nat × Int32 × Int32 × Int32 × Int32 × Int32 × MS) ⊕ (Int32 × MS))) :=
  f_X12_readsPhase_329 l0 l1 l2 l3 l4 l5 ((-1)) μ
noncomputable def f_X12_readsPhase_120 (l0 : Nat) (l1 : Int32) (l2 : Int32) (l3 : Int32) (l4 : Int32) (l5 : Int32) (s0 : Int32) (μ : MS) : Option (((Nat × Int32 × Int32 × Int32 × Int32 × Int32 × MS) ⊕ (Int32 × MS))) :=
  if l5 = l4 then
    (gR μ 12 l0 25).bind fun x134 =>
    (aI μ 15 x134 l5).bind fun x139 =>
    (isO μ 12 l0 (f_X12_isWhole l0 l1 l2 l3 x139 s0 μ)).bind fun z142 =>
    if z142.1 = 0 then
      (gR z142.2 12 l0 23).bind fun x185 =>
      (gR z142.2 12 l0 25).bind fun x191 =>
      (aI z142.2 15 x191 l5).bind fun x196 =>
      (f_X12_dead l5 x196 s0 z142.2).bind fun z199 =>
      (sI z199.2 17 x185 z199.1 1).bind fun m203 =>
      (some (l5 + (-1))).bind fun v204 =>
      f_X12_readsPhase_393 l0 l1 l2 l3 l4 v204 m203
    else
      xr (f_X12_readsPhase_148 l0 l4 z142.2)
  else
    (gR μ 12 l0 24).bind fun x211 =>
    (aI μ 15 x211 l5).bind fun x216 =>
    if x216 = 1 then
      (gR μ 12 l0 23).bind fun x222 =>
      (gR μ 12 l0 25).bind fun x228 =>
      (aI μ 15 x228 l5).bind fun x233 =>
      (f_X12_dead l5 x233 s0 μ).bind fun z236 =>
      (sI z236.2 17 x222 z236.1 1).bind fun m240 =>
      (some (l5 + (-1))).bind fun v241 =>
      f_X12_readsPhase_393 l0 l1 l2 l3 l4 v241 m240
    else
      (gR μ 12 l0 24).bind fun x248 =>
      (aI μ 15 x248 l5).bind fun x254 =>
      (sI μ 15 x248 l5 (x254 + 1)).bind fun m257 =>
      (gR m257 12 l0 25).bind fun x259 =>
      (aI m257 15 x259 l5).bind fun x264 =>
      if (x264 + 1) < l3 then
        f_X12_readsPhase_301 l0 l1 l2 l3 l4 l5 s0 m257
      else
        (gR m257 12 l0 25).bind fun x272 =>
        (aI m257 15 x272 l5).bind fun x277 =>
        if (x277 + 1) = l3 then
          if l5 ≤ 0 then
            f_X12_readsPhase_328 l0 l1 l2 l3 l4 l5 m257
          else
            (gR m257 12 l0 24).bind fun x292 =>
            (aI m257 15 x292 l5).bind fun x297 =>
            if s0 = x297 then
              f_X12_readsPhase_328 l0 l1 l2 l3 l4 l5 m257
            else
              f_X12_readsPhase_301 l0 l1 l2 l3 l4 l5 s0 m257
        else
          f_X12_readsPhase_328 l0 l1 l2 l3 l4 l5 m257
noncomputable def f_X12_readsPhase_97_b (l0 : Nat) (l1 : Int32) (l2 : Int32) (l3 : Int32) (l4 : Int32) (l5 : Int32) (μ : MS) : Option (((Nat × Int32 × Int32 × Int32 × Int32 × Int32 × MS) ⊕ (Int32 × MS))) :=
  if l5 < 0 then
    xr (f_X12_readsPhase_396 μ)
  else
    if l5 = 0 then
      f_X12_readsPhase_120 l0 l1 l2 l3 l4 l5 0 μ
    else
      (gR μ 12 l0 24).bind fun x112 =>
      (aI μ 15 x112 (l5 - 1)).bind fun x119 =>
      f_X12_readsPhase_120 l0 l1 l2 l3 l4 l5 x119 μ
noncomputable def f_X12_readsPhase_97 (l0 : Nat) (l1 : Int32) (l2 : Int32) (l3 : Int32) (l4 : Int32) (l5 : Int32) (μ : MS) : Option ((Int32 × MS)) := lp (fun s : Nat × Int32 × Int32 × Int32 × Int32 × Int32 × MS => f_X12_readsPhase_97_b s.1 s.2.1 s.2.2.1 s.2.2.2.1 s.2.2.2.2.1 s.2.2.2.2.2.1 s.2.2.2.2.2.2) (l0, l1, l2, l3, l4, l5, μ)
noncomputable def f_X12_readsPhase_39 (l0 : Nat) (l1 : Int32) (l2 : Int32) (l3 : Int32) (l4 : Int32) (μ : MS) : Option ((Int32 × MS)) :=
  if l3 < 3 then
    some ((-1), μ)
  else
    if ((2 * l4) + 1) < l3 then
      some ((-1), μ)
    else
      (gR μ 12 l0 13).bind fun x56 =>
      (aI μ 15 x56 l2).bind fun x60 =>
      (gR μ 12 l0 0).bind fun x62 =>
      (f_X12_at l1 μ).bind fun z66 =>
      (aI z66.2 15 x62 (z66.1 + 1)).bind fun x71 =>
      (isO z66.2 12 l0 (f_X12_matches l0 x60 x71 z66.2)).bind fun z72 =>
      if z72.1 = 0 then
        some ((-1), z72.2)
      else
        (gR z72.2 12 l0 24).bind fun x84 =>
        (sI z72.2 15 x84 0 ((-1))).bind fun m89 =>
        (gR m89 12 l0 25).bind fun x91 =>
        (sI m89 15 x91 0 1).bind fun m96 =>
        f_X12_readsPhase_97 l0 l1 l2 l3 l4 0 m96
noncomputable def f_X12_readsPhase_17_b (l0 : Nat) (l1 : Int32) (l2 : Int32) (l3 : Int32) (l4 : Int32) (l5 : Int32) (μ : MS) : Option (((Nat × Int32 × Int32 × Int32 × Int32 × Int32 × MS) ⊕ (Int32 × MS))) :=
  if 2720 ≤ l5 then
    xr (f_X12_readsPhase_39 l0 l1 l2 l3 l4 μ)
  else
    (gR μ 12 l0 23).bind fun x26 =>
    (sI μ 17 x26 l5 0).bind fun m32 =>
    (some (l5 + 1)).bind fun v33 =>
    some (.inl (l0, l1, l2, l3, l4, v33, m32))
noncomputable def f_X12_readsPhase_17 (l0 : Nat) (l1 : Int32) (l2 : Int32) (l3 : Int32) (l4 : Int32) (l5 : Int32) (μ : MS) : Option ((Int32 × MS)) := lp (fun s : Nat × Int32 × Int32 × Int32 × Int32 × Int32 × MS => f_X12_readsPhase_17_b s.1 s.2.1 s.2.2.1 s.2.2.2.1 s.2.2.2.2.1 s.2.2.2.2.2.1 s.2.2.2.2.2.2) (l0, l1, l2, l3, l4, l5, μ)
noncomputable def f_X12_readsPhase (l0 : Nat) (l1 : Int32) (l2 : Int32) (l3 : Int32) (μ : MS) : Option ((Int32 × MS)) :=
  (gR μ 12 l0 0).bind fun x1 =>
  (f_X12_at l1 μ).bind fun z5 =>
  (aI z5.2 15 x1 (z5.1 + 6)).bind fun x11 =>
  f_X12_readsPhase_17 l0 l1 l2 l3 x11 0 z5.2
-- PulseRemoteModel.codeOf(III)I
noncomputable def f_X12_codeOf_211 (l0 : Nat) (l1 : Int32) (l6 : Int32) (μ : MS) : Option ((Int32 × MS)) :=
  if 0 ≤ l6 then
    (isO μ 12 l0 (f_X12_ordered l0 l1 l6 μ)).bind fun z224 =>
    some (z224.1, z224.2)
  else
    some ((-1), μ)
noncomputable def f_X12_codeOf_209 (l0 : Nat) (l1 : Int32) (s0 : Int32) (μ : MS) : Option ((Int32 × MS)) :=
  f_X12_codeOf_211 l0 l1 s0 μ
noncomputable def f_X12_codeOf_202 (l0 : Nat) (l1 : Int32) (s0 : Int32) (s1 : Int32) (s2 : Nat) (μ : MS) : Option ((Int32 × MS)) :=
  (isO μ 12 s2 (f_X12_readsBits s2 s1 s0 μ)).bind fun z202 =>
  f_X12_codeOf_209 l0 l1 z202.1 z202.2
noncomputable def f_X12_codeOf_172 (l0 : Nat) (l1 : Int32) (l2 : Int32) (l4 : Int32) (s0 : Int32) (μ : MS) : Option ((Int32 × MS)) :=
  if s0 = 0 then
    f_X12_codeOf_209 l0 l1 ((-1)) μ
  else
    (gR μ 12 l0 0).bind fun x182 =>
    (aI μ 15 x182 (l4 + 0)).bind fun x189 =>
    if x189 = 0 then
      f_X12_codeOf_202 l0 l1 (l2 + 3) l1 l0 μ
    else
      f_X12_codeOf_202 l0 l1 (l2 + 2) l1 l0 μ
noncomputable def f_X12_codeOf_171 (l0 : Nat) (l1 : Int32) (l2 : Int32) (l4 : Int32) (μ : MS) : Option ((Int32 × MS)) :=
  f_X12_codeOf_172 l0 l1 l2 l4 0 μ
noncomputable def f_X12_codeOf_149 (l0 : Nat) (l1 : Int32) (l2 : Int32) (l3 : Int32) (l4 : Int32) (s0 : Int32) (s1 : Nat) (μ : MS) : Option ((Int32 × MS)) :=
  (gR μ 12 l0 0).bind fun x153 =>
  (aI μ 15 x153 (l4 + 3)).bind fun x160 =>
  (isO μ 12 s1 (f_X12_match s1 s0 (l2 + l3) x160 μ)).bind fun z161 =>
  if z161.1 = 0 then
    f_X12_codeOf_171 l0 l1 l2 l4 z161.2
  else
    f_X12_codeOf_172 l0 l1 l2 l4 1 z161.2
noncomputable def f_X12_codeOf_120 (l0 : Nat) (l1 : Int32) (l2 : Int32) (l3 : Int32) (l4 : Int32) (s0 : Int32) (μ : MS) : Option ((Int32 × MS)) :=
  if s0 = 0 then
    f_X12_codeOf_171 l0 l1 l2 l4 μ
  else
    (gR μ 12 l0 0).bind fun x129 =>
    (aI μ 15 x129 (l4 + 0)).bind fun x136 =>
    if x136 = 0 then
      f_X12_codeOf_149 l0 l1 l2 l3 l4 (l2 + 2) l0 μ
    else
      f_X12_codeOf_149 l0 l1 l2 l3 l4 (l2 + 3) l0 μ
noncomputable def f_X12_codeOf_119 (l0 : Nat) (l1 : Int32) (l2 : Int32) (l3 : Int32) (l4 : Int32) (μ : MS) : Option ((Int32 × MS)) :=
  f_X12_codeOf_120 l0 l1 l2 l3 l4 0 μ
noncomputable def f_X12_codeOf_65 (l0 : Nat) (l1 : Int32) (l2 : Int32) (l3 : Int32) (l4 : Int32) (s0 : Int32) (s1 : Int32) (s2 : Int32) (μ : MS) : Option ((Int32 × MS)) :=
  if s2 = (s1 + s0) then
    (gR μ 12 l0 13).bind fun x71 =>
    (aI μ 15 x71 l2).bind fun x75 =>
    (gR μ 12 l0 0).bind fun x77 =>
    (aI μ 15 x77 (l4 + 1)).bind fun x84 =>
    (isO μ 12 l0 (f_X12_matches l0 x75 x84 μ)).bind fun z85 =>
    if z85.1 = 0 then
      f_X12_codeOf_119 l0 l1 l2 l3 l4 z85.2
    else
      (gR z85.2 12 l0 13).bind fun x93 =>
      (aI z85.2 15 x93 (l2 + 1)).bind fun x99 =>
      (gR z85.2 12 l0 0).bind fun x101 =>
      (aI z85.2 15 x101 (l4 + 2)).bind fun x108 =>
      (isO z85.2 12 l0 (f_X12_matches l0 x99 x108 z85.2)).bind fun z109 =>
      if z109.1 = 0 then
        f_X12_codeOf_119 l0 l1 l2 l3 l4 z109.2
      else
        f_X12_codeOf_120 l0 l1 l2 l3 l4 1 z109.2
  else
    f_X12_codeOf_119 l0 l1 l2 l3 l4 μ
noncomputable def f_X12_codeOf (l0 : Nat) (l1 : Int32) (l2 : Int32) (l3 : Int32) (μ : MS) : Option ((Int32 × MS)) :=
  (f_X12_at l1 μ).bind fun z1 =>
  (gR z1.2 12 l0 0).bind fun x7 =>
  (aI z1.2 15 x7 (z1.1 + 6)).bind fun x15 =>
  (gR z1.2 12 l0 0).bind fun x19 =>
  (aI z1.2 15 x19 (z1.1 + 0)).bind fun x26 =>
  if x26 = 2 then
    (isO z1.2 12 l0 (f_X12_readsPhase l0 l1 l2 l3 z1.2)).bind fun z35 =>
    f_X12_codeOf_211 l0 l1 z35.1 z35.2
  else
    (gR z1.2 12 l0 0).bind fun x49 =>
    (aI z1.2 15 x49 (z1.1 + 0)).bind fun x56 =>
    if x56 = 0 then
      f_X12_codeOf_65 l0 l1 l2 l3 z1.1 3 (2 * x15) l3 z1.2
    else
      f_X12_codeOf_65 l0 l1 l2 l3 z1.1 1 (2 * x15) l3 z1.2
-- PulseRemoteModel.isShort(III)Z
noncomputable def f_X12_isShort (l0 : Nat) (l1 : Int32) (l2 : Int32) (l3 : Int32) (μ : MS) : Option ((Int32 × MS)) :=
  (f_X12_at l1 μ).bind fun z1 =>
  (gR z1.2 12 l0 0).bind fun x7 =>
  (aI z1.2 15 x7 (z1.1 + 8)).bind fun x15 =>
  if x15 = 1 then
    if l3 = 3 then
      (gR z1.2 12 l0 13).bind fun x27 =>
      (aI z1.2 15 x27 l2).bind fun x31 =>
      (gR z1.2 12 l0 0).bind fun x33 =>
      (aI z1.2 15 x33 (z1.1 + 1)).bind fun x40 =>
      (isO z1.2 12 l0 (f_X12_matches l0 x31 x40 z1.2)).bind fun z41 =>
      if z41.1 = 0 then
        some (0, z41.2)
      else
        (gR z41.2 12 l0 13).bind fun x49 =>
        (aI z41.2 15 x49 (l2 + 1)).bind fun x55 =>
        (gR z41.2 12 l0 0).bind fun x57 =>
        (aI z41.2 15 x57 (z1.1 + 2)).bind fun x64 =>
        (dvI x64 2).bind fun v66 =>
        (isO z41.2 12 l0 (f_X12_matches l0 x55 v66 z41.2)).bind fun z67 =>
        if z67.1 = 0 then
          some (0, z67.2)
        else
          (gR z67.2 12 l0 13).bind fun x75 =>
          (aI z67.2 15 x75 (l2 + 2)).bind fun x81 =>
          (gR z67.2 12 l0 0).bind fun x83 =>
          (aI z67.2 15 x83 (z1.1 + 3)).bind fun x90 =>
          (isO z67.2 12 l0 (f_X12_matches l0 x81 x90 z67.2)).bind fun z91 =>
          if z91.1 = 0 then
            some (0, z91.2)
          else
            some (1, z91.2)
    else
      some (0, z1.2)
  else
    some (0, z1.2)
-- PulseRemoteModel.decodes(I)Z
noncomputable def f_X12_decodes_113  (μ : MS) : Option ((Int32 × MS)) :=
  some (0, μ)
noncomputable def f_X12_decodes_89 (l0 : Nat) (l2 : Int32) (μ : MS) : Option ((Int32 × MS)) :=
  (pI μ 12 l0 26 l2).bind fun m91 =>
  (pI m91 12 l0 27 ((-9))).bind fun m97 =>
  (pZ m97 12 l0 28 1).bind fun m102 =>
  some (1, m102)
noncomputable def f_X12_decodes_59_b (l0 : Nat) (l1 : Int32) (l2 : Int32) (μ : MS) : Option (((Nat × Int32 × Int32 × MS) ⊕ (Int32 × MS))) :=
  (gR μ 12 l0 0).bind fun x61 =>
  (aI μ 15 x61 3).bind fun x65 =>
  if x65 ≤ l2 then
    xr (f_X12_decodes_113 μ)
  else
    (gR μ 12 l0 19).bind fun x72 =>
    (aI μ 15 x72 l1).bind fun x76 =>
    (gR μ 12 l0 20).bind fun x78 =>
    (aI μ 15 x78 l1).bind fun x82 =>
    (isO μ 12 l0 (f_X12_isShort l0 l2 x76 x82 μ)).bind fun z83 =>
    if z83.1 = 0 then
      (some (l2 + 1)).bind fun v107 =>
      some (.inl (l0, l1, v107, z83.2))
    else
      xr (f_X12_decodes_89 l0 l2 z83.2)
noncomputable def f_X12_decodes_59 (l0 : Nat) (l1 : Int32) (l2 : Int32) (μ : MS) : Option ((Int32 × MS)) := lp (fun s : Nat × Int32 × Int32 × MS => f_X12_decodes_59_b s.1 s.2.1 s.2.2.1 s.2.2.2) (l0, l1, l2, μ)
noncomputable def f_X12_decodes_57 (l0 : Nat) (l1 : Int32) (μ : MS) : Option ((Int32 × MS)) :=
  f_X12_decodes_59 l0 l1 0 μ
noncomputable def f_X12_decodes_39 (l0 : Nat) (l2 : Int32) (l3 : Int32) (μ : MS) : Option ((Int32 × MS)) :=
  (pI μ 12 l0 26 l2).bind fun m41 =>
  (pI m41 12 l0 27 l3).bind fun m46 =>
  some (1, m46)
noncomputable def f_X12_decodes_7_b (l0 : Nat) (l1 : Int32) (l2 : Int32) (μ : MS) : Option (((Nat × Int32 × Int32 × MS) ⊕ (Int32 × MS))) :=
  (gR μ 12 l0 0).bind fun x9 =>
  (aI μ 15 x9 3).bind fun x13 =>
  if x13 ≤ l2 then
    xr (f_X12_decodes_57 l0 l1 μ)
  else
    (gR μ 12 l0 19).bind fun x20 =>
    (aI μ 15 x20 l1).bind fun x24 =>
    (gR μ 12 l0 20).bind fun x26 =>
    (aI μ 15 x26 l1).bind fun x30 =>
    (isO μ 12 l0 (f_X12_codeOf l0 l2 x24 x30 μ)).bind fun z31 =>
    if z31.1 < 0 then
      (some (l2 + 1)).bind fun v51 =>
      some (.inl (l0, l1, v51, z31.2))
    else
      xr (f_X12_decodes_39 l0 l2 z31.1 z31.2)
noncomputable def f_X12_decodes_7 (l0 : Nat) (l1 : Int32) (l2 : Int32) (μ : MS) : Option ((Int32 × MS)) := lp (fun s : Nat × Int32 × Int32 × MS => f_X12_decodes_7_b s.1 s.2.1 s.2.2.1 s.2.2.2) (l0, l1, l2, μ)
noncomputable def f_X12_decodes (l0 : Nat) (l1 : Int32) (μ : MS) : Option ((Int32 × MS)) :=
  (pZ μ 12 l0 28 0).bind fun m2 =>
  f_X12_decodes_7 l0 l1 0 m2
-- PulseRemoteModel.opens(I)V
noncomputable def f_X12_opens (l0 : Nat) (l1 : Int32) (μ : MS) : Option (MS) :=
  (isO μ 12 l0 (f_X12_looksAt l0 l1 μ)).bind fun z2 =>
  (isO z2 12 l0 (f_X12_findsFrames l0 z2)).bind fun z6 =>
  (gR z6 12 l0 0).bind fun x11 =>
  (aI z6 15 x11 2).bind fun x15 =>
  (pI z6 12 l0 22 x15).bind fun m16 =>
  some m16
-- PulseRemoteModel.frameCount(I)I
noncomputable def f_X12_frameCount (l0 : Nat) (l1 : Int32) (μ : MS) : Option ((Int32 × MS)) :=
  (f_X12_isSlot l1 μ).bind fun z1 =>
  if z1.1 = 0 then
    some ((-1), z1.2)
  else
    (isO z1.2 12 l0 (f_X12_opens l0 l1 z1.2)).bind fun z11 =>
    (gI z11 12 l0 21).bind fun x15 =>
    some (x15, z11)
-- PulseRemoteModel.frame(III)I
noncomputable def f_X12_frame (l0 : Nat) (l1 : Int32) (l2 : Int32) (l3 : Int32) (μ : MS) : Option ((Int32 × MS)) :=
  (f_X12_isSlot l1 μ).bind fun z1 =>
  if z1.1 = 0 then
    some ((-1), z1.2)
  else
    if l2 < 0 then
      some ((-1), z1.2)
    else
      (f_X12_in l3 0 4 z1.2).bind fun z14 =>
      if z14.1 = 0 then
        some ((-1), z14.2)
      else
        (isO z14.2 12 l0 (f_X12_opens l0 l1 z14.2)).bind fun z24 =>
        (gI z24 12 l0 21).bind fun x29 =>
        if l2 < x29 then
          if 2 ≤ l3 then
            (isO z24 12 l0 (f_X12_decodes l0 l2 z24)).bind fun z65 =>
            if z65.1 = 0 then
              some ((-9), z65.2)
            else
              if l3 = 2 then
                (gI z65.2 12 l0 26).bind fun x80 =>
                some (x80, z65.2)
              else
                if l3 = 3 then
                  (gI z65.2 12 l0 27).bind fun x92 =>
                  some (x92, z65.2)
                else
                  (gI z65.2 12 l0 28).bind fun x99 =>
                  if x99 = 0 then
                    some (0, z65.2)
                  else
                    some (1, z65.2)
          else
            if l3 = 0 then
              (gR z24 12 l0 19).bind fun x48 =>
              (aI z24 15 x48 l2).bind fun x52 =>
              some (x52, z24)
            else
              (gR z24 12 l0 20).bind fun x57 =>
              (aI z24 15 x57 l2).bind fun x61 =>
              some (x61, z24)
        else
          some ((-9), z24)
-- PulseRemoteModel.deviation(II)I
noncomputable def f_X12_deviation_172 (l3 : Int32) (μ : MS) : Option ((Int32 × MS)) :=
  some (l3, μ)
noncomputable def f_X12_deviation_165 (l0 : Nat) (l2 : Int32) (l4 : Int32) (s0 : Int32) (μ : MS) : Option (((Nat × Int32 × Int32 × Int32 × MS) ⊕ (Int32 × MS))) :=
  (some (l4 + 1)).bind fun v166 =>
  some (.inl (l0, l2, s0, v166, μ))
noncomputable def f_X12_deviation_132 (l0 : Nat) (l2 : Int32) (l3 : Int32) (l4 : Int32) (s0 : Int32) (μ : MS) : Option (((Nat × Int32 × Int32 × Int32 × MS) ⊕ (Int32 × MS))) :=
  (gR μ 12 l0 11).bind fun x142 =>
  (aI μ 15 x142 l4).bind fun x147 =>
  (dvL (1000 * s0.toInt64) x147.toInt64).bind fun v149 =>
  if v149.toInt32 ≤ l3 then
    f_X12_deviation_165 l0 l2 l4 l3 μ
  else
    f_X12_deviation_165 l0 l2 l4 v149.toInt32 μ
noncomputable def f_X12_deviation_72_b (l0 : Nat) (l2 : Int32) (l3 : Int32) (l4 : Int32) (μ : MS) : Option (((Nat × Int32 × Int32 × Int32 × MS) ⊕ (Int32 × MS))) :=
  (gI μ 12 l0 12).bind fun x75 =>
  if x75 ≤ l4 then
    xr (f_X12_deviation_172 l3 μ)
  else
    (gR μ 12 l0 13).bind fun x82 =>
    (gR μ 12 l0 19).bind fun x86 =>
    (aI μ 15 x86 l2).bind fun x90 =>
    (aI μ 15 x82 (x90 + l4)).bind fun x94 =>
    (gR μ 12 l0 11).bind fun x100 =>
    (aI μ 15 x100 l4).bind fun x105 =>
    if x94 ≤ x105 then
      (gR μ 12 l0 11).bind fun x123 =>
      (aI μ 15 x123 l4).bind fun x128 =>
      f_X12_deviation_132 l0 l2 l3 l4 (x128 - x94) μ
    else
      (gR μ 12 l0 11).bind fun x112 =>
      (aI μ 15 x112 l4).bind fun x117 =>
      f_X12_deviation_132 l0 l2 l3 l4 (x94 - x117) μ
noncomputable def f_X12_deviation_72 (l0 : Nat) (l2 : Int32) (l3 : Int32) (l4 : Int32) (μ : MS) : Option ((Int32 × MS)) := lp (fun s : Nat × Int32 × Int32 × Int32 × MS => f_X12_deviation_72_b s.1 s.2.1 s.2.2.1 s.2.2.2.1 s.2.2.2.2) (l0, l2, l3, l4, μ)
noncomputable def f_X12_deviation_67 (l0 : Nat) (l2 : Int32) (μ : MS) : Option ((Int32 × MS)) :=
  f_X12_deviation_72 l0 l2 0 0 μ
noncomputable def f_X12_deviation (l0 : Nat) (l1 : Int32) (l2 : Int32) (μ : MS) : Option ((Int32 × MS)) :=
  (f_X12_isSlot l1 μ).bind fun z1 =>
  if z1.1 = 0 then
    some ((-1), z1.2)
  else
    if 0 ≤ l2 then
      (isO z1.2 12 l0 (f_X12_opens l0 l1 z1.2)).bind fun z15 =>
      (gI z15 12 l0 21).bind fun x20 =>
      if x20 ≤ l2 then
        some ((-9), z15)
      else
        (isO z15 12 l0 (f_X12_decodes l0 l2 z15)).bind fun z28 =>
        if z28.1 = 0 then
          some ((-9), z28.2)
        else
          (gI z28.2 12 l0 28).bind fun x38 =>
          if x38 = 0 then
            (gI z28.2 12 l0 26).bind fun x57 =>
            (gI z28.2 12 l0 27).bind fun x61 =>
            (isO z28.2 12 l0 (f_X12_makes l0 x57 x61 z28.2)).bind fun z64 =>
            f_X12_deviation_67 l0 l2 z64
          else
            (gI z28.2 12 l0 26).bind fun x46 =>
            (isO z28.2 12 l0 (f_X12_makesShort l0 x46 z28.2)).bind fun z49 =>
            f_X12_deviation_67 l0 l2 z49
    else
      some ((-1), z1.2)
-- PulseRemoteModel.findsPresses(I)V
noncomputable def f_X12_findsPresses_288  (μ : MS) : Option (MS) :=
  some μ
noncomputable def f_X12_findsPresses_282 (l0 : Nat) (l2 : Int32) (l3 : Int32) (l4 : Int32) (l5 : Int32) (l6 : Int32) (μ : MS) : Option (((Nat × Int32 × Int32 × Int32 × Int32 × Int32 × MS) ⊕ MS)) :=
  (some (l6 + 1)).bind fun v282 =>
  some (.inl (l0, l2, l3, l4, l5, v282, μ))
noncomputable def f_X12_findsPresses_269 (l0 : Nat) (l2 : Int32) (l3 : Int32) (l4 : Int32) (l6 : Int32) (μ : MS) : Option (((Nat × Int32 × Int32 × Int32 × Int32 × Int32 × MS) ⊕ MS)) :=
  (gI μ 12 l0 31).bind fun x271 =>
  (pI μ 12 l0 31 (x271 + 1)).bind fun m276 =>
  f_X12_findsPresses_282 l0 l2 l3 l4 0 l6 m276
noncomputable def f_X12_findsPresses_263 (l0 : Nat) (l2 : Int32) (l3 : Int32) (l4 : Int32) (l6 : Int32) (μ : MS) : Option (((Nat × Int32 × Int32 × Int32 × Int32 × Int32 × MS) ⊕ MS)) :=
  f_X12_findsPresses_282 l0 l2 l3 l4 1 l6 μ
noncomputable def f_X12_findsPresses_211 (l0 : Nat) (l3 : Int32) (l4 : Int32) (l6 : Int32) (s0 : Int32) (μ : MS) : Option (((Nat × Int32 × Int32 × Int32 × Int32 × Int32 × MS) ⊕ MS)) :=
  if s0 < 0 then
    f_X12_findsPresses_263 l0 s0 l3 l4 l6 μ
  else
    (gR μ 12 l0 29).bind fun x217 =>
    (gI μ 12 l0 26).bind fun x224 =>
    (sI μ 15 x217 (3 * s0) x224).bind fun m227 =>
    (gR m227 12 l0 29).bind fun x229 =>
    (gI m227 12 l0 27).bind fun x238 =>
    (sI m227 15 x229 ((3 * s0) + 1) x238).bind fun m241 =>
    (gR m241 12 l0 29).bind fun x243 =>
    (sI m241 15 x243 ((3 * s0) + 2) 1).bind fun m252 =>
    (gI m252 12 l0 30).bind fun x255 =>
    (pI m252 12 l0 30 (x255 + 1)).bind fun m260 =>
    f_X12_findsPresses_263 l0 s0 l3 l4 l6 m260
noncomputable def f_X12_findsPresses_171 (l0 : Nat) (l2 : Int32) (l3 : Int32) (l4 : Int32) (l6 : Int32) (l7 : Int32) (μ : MS) : Option (((Nat × Int32 × Int32 × Int32 × Int32 × Int32 × MS) ⊕ MS)) :=
  if l7 = 0 then
    f_X12_findsPresses_269 l0 l2 l3 l4 l6 μ
  else
    (gI μ 12 l0 28).bind fun x177 =>
    if x177 = 0 then
      (gI μ 12 l0 26).bind fun x184 =>
      (gI μ 12 l0 27).bind fun x189 =>
      (gI μ 12 l0 30).bind fun x195 =>
      if 30 ≤ x195 then
        f_X12_findsPresses_211 l0 x184 x189 l6 ((-1)) μ
      else
        (gI μ 12 l0 30).bind fun x204 =>
        f_X12_findsPresses_211 l0 x184 x189 l6 x204 μ
    else
      f_X12_findsPresses_269 l0 l2 l3 l4 l6 μ
noncomputable def f_X12_findsPresses_133 (l0 : Nat) (l2 : Int32) (l3 : Int32) (l4 : Int32) (l5 : Int32) (l6 : Int32) (l7 : Int32) (l8 : Int32) (s0 : Int32) (μ : MS) : Option (((Nat × Int32 × Int32 × Int32 × Int32 × Int32 × MS) ⊕ MS)) :=
  if l5 = 0 then
    f_X12_findsPresses_171 l0 l2 l3 l4 l6 l7 μ
  else
    if l8 = 0 then
      f_X12_findsPresses_171 l0 l2 l3 l4 l6 l7 μ
    else
      if s0 = 0 then
        f_X12_findsPresses_171 l0 l2 l3 l4 l6 l7 μ
      else
        if l2 < 0 then
          f_X12_findsPresses_282 l0 l2 l3 l4 l5 l6 μ
        else
          (gR μ 12 l0 29).bind fun x155 =>
          (aI μ 15 x155 ((3 * l2) + 2)).bind fun x164 =>
          (sI μ 15 x155 ((3 * l2) + 2) (x164 + 1)).bind fun m167 =>
          f_X12_findsPresses_282 l0 l2 l3 l4 l5 l6 m167
noncomputable def f_X12_findsPresses_132 (l0 : Nat) (l2 : Int32) (l3 : Int32) (l4 : Int32) (l5 : Int32) (l6 : Int32) (l7 : Int32) (l8 : Int32) (μ : MS) : Option (((Nat × Int32 × Int32 × Int32 × Int32 × Int32 × MS) ⊕ MS)) :=
  f_X12_findsPresses_133 l0 l2 l3 l4 l5 l6 l7 l8 0 μ
noncomputable def f_X12_findsPresses_128 (l0 : Nat) (l2 : Int32) (l3 : Int32) (l4 : Int32) (l5 : Int32) (l6 : Int32) (l7 : Int32) (l8 : Int32) (μ : MS) : Option (((Nat × Int32 × Int32 × Int32 × Int32 × Int32 × MS) ⊕ MS)) :=
  f_X12_findsPresses_133 l0 l2 l3 l4 l5 l6 l7 l8 1 μ
noncomputable def f_X12_findsPresses_78 (l0 : Nat) (l2 : Int32) (l3 : Int32) (l4 : Int32) (l5 : Int32) (l6 : Int32) (l7 : Int32) (s0 : Int32) (μ : MS) : Option (((Nat × Int32 × Int32 × Int32 × Int32 × Int32 × MS) ⊕ MS)) :=
  if l7 = 0 then
    f_X12_findsPresses_132 l0 l2 l3 l4 l5 l6 l7 s0 μ
  else
    (gI μ 12 l0 26).bind fun x86 =>
    if x86 = l3 then
      (gI μ 12 l0 28).bind fun x94 =>
      if x94 = 0 then
        (gI μ 12 l0 27).bind fun x101 =>
        if x101 = l4 then
          (gR μ 12 l0 0).bind fun x110 =>
          (gI μ 12 l0 26).bind fun x114 =>
          (f_X12_at x114 μ).bind fun z117 =>
          (aI z117.2 15 x110 (z117.1 + 8)).bind fun x123 =>
          if x123 = 1 then
            f_X12_findsPresses_132 l0 l2 l3 l4 l5 l6 l7 s0 z117.2
          else
            f_X12_findsPresses_128 l0 l2 l3 l4 l5 l6 l7 s0 z117.2
        else
          f_X12_findsPresses_132 l0 l2 l3 l4 l5 l6 l7 s0 μ
      else
        f_X12_findsPresses_128 l0 l2 l3 l4 l5 l6 l7 s0 μ
    else
      f_X12_findsPresses_132 l0 l2 l3 l4 l5 l6 l7 s0 μ
noncomputable def f_X12_findsPresses_77 (l0 : Nat) (l2 : Int32) (l3 : Int32) (l4 : Int32) (l5 : Int32) (l6 : Int32) (l7 : Int32) (μ : MS) : Option (((Nat × Int32 × Int32 × Int32 × Int32 × Int32 × MS) ⊕ MS)) :=
  f_X12_findsPresses_78 l0 l2 l3 l4 l5 l6 l7 0 μ
noncomputable def f_X12_findsPresses_28_b (l0 : Nat) (l2 : Int32) (l3 : Int32) (l4 : Int32) (l5 : Int32) (l6 : Int32) (μ : MS) : Option (((Nat × Int32 × Int32 × Int32 × Int32 × Int32 × MS) ⊕ MS)) :=
  (gI μ 12 l0 21).bind fun x31 =>
  if x31 ≤ l6 then
    xr (f_X12_findsPresses_288 μ)
  else
    (isO μ 12 l0 (f_X12_decodes l0 l6 μ)).bind fun z40 =>
    if l6 ≤ 0 then
      f_X12_findsPresses_77 l0 l2 l3 l4 l5 l6 z40.1 z40.2
    else
      (gR z40.2 12 l0 13).bind fun x51 =>
      (gR z40.2 12 l0 19).bind fun x55 =>
      (aI z40.2 15 x55 l6).bind fun x60 =>
      (aI z40.2 15 x51 (x60 - 1)).bind fun x63 =>
      (gR z40.2 12 l0 0).bind fun x65 =>
      (aI z40.2 15 x65 1).bind fun x69 =>
      if x69 < x63 then
        f_X12_findsPresses_77 l0 l2 l3 l4 l5 l6 z40.1 z40.2
      else
        f_X12_findsPresses_78 l0 l2 l3 l4 l5 l6 z40.1 1 z40.2
noncomputable def f_X12_findsPresses_28 (l0 : Nat) (l2 : Int32) (l3 : Int32) (l4 : Int32) (l5 : Int32) (l6 : Int32) (μ : MS) : Option (MS) := lp (fun s : Nat × Int32 × Int32 × Int32 × Int32 × Int32 × MS => f_X12_findsPresses_28_b s.1 s.2.1 s.2.2.1 s.2.2.2.1 s.2.2.2.2.1 s.2.2.2.2.2.1 s.2.2.2.2.2.2) (l0, l2, l3, l4, l5, l6, μ)
noncomputable def f_X12_findsPresses (l0 : Nat) (l1 : Int32) (μ : MS) : Option (MS) :=
  (isO μ 12 l0 (f_X12_opens l0 l1 μ)).bind fun z2 =>
  (pI z2 12 l0 30 0).bind fun m7 =>
  (pI m7 12 l0 31 0).bind fun m12 =>
  f_X12_findsPresses_28 l0 ((-1)) ((-1)) ((-1)) 0 0 m12
-- PulseRemoteModel.pressCount(I)I
noncomputable def f_X12_pressCount (l0 : Nat) (l1 : Int32) (μ : MS) : Option ((Int32 × MS)) :=
  (f_X12_isSlot l1 μ).bind fun z1 =>
  if z1.1 = 0 then
    some ((-1), z1.2)
  else
    (isO z1.2 12 l0 (f_X12_findsPresses l0 l1 z1.2)).bind fun z11 =>
    (gI z11 12 l0 30).bind fun x15 =>
    some (x15, z11)
-- PulseRemoteModel.press(III)I
noncomputable def f_X12_press (l0 : Nat) (l1 : Int32) (l2 : Int32) (l3 : Int32) (μ : MS) : Option ((Int32 × MS)) :=
  (f_X12_isSlot l1 μ).bind fun z1 =>
  if z1.1 = 0 then
    some ((-1), z1.2)
  else
    if l2 < 0 then
      some ((-1), z1.2)
    else
      (f_X12_in l3 0 3 z1.2).bind fun z14 =>
      if z14.1 = 0 then
        some ((-1), z14.2)
      else
        (isO z14.2 12 l0 (f_X12_findsPresses l0 l1 z14.2)).bind fun z24 =>
        (gI z24 12 l0 30).bind fun x29 =>
        if l2 < x29 then
          (gR z24 12 l0 29).bind fun x39 =>
          (aI z24 15 x39 (3 * l2)).bind fun x45 =>
          if 3 ≤ l3 then
            (gR z24 12 l0 29).bind fun x73 =>
            (aI z24 15 x73 ((3 * l2) + 1)).bind fun x81 =>
            (isO z24 12 l0 (f_X12_identity l0 x45 x81 z24)).bind fun z82 =>
            (isO z82.2 12 l0 (f_X12_buttonOf l0 x45 z82.1 z82.2)).bind fun z85 =>
            some (z85.1, z85.2)
          else
            (gR z24 12 l0 29).bind fun x54 =>
            (aI z24 15 x54 ((3 * l2) + l3)).bind fun x62 =>
            some (x62, z24)
        else
          some ((-9), z24)
-- PulseRemoteModel.strayCount(I)I
noncomputable def f_X12_strayCount (l0 : Nat) (l1 : Int32) (μ : MS) : Option ((Int32 × MS)) :=
  (f_X12_isSlot l1 μ).bind fun z1 =>
  if z1.1 = 0 then
    some ((-1), z1.2)
  else
    (isO z1.2 12 l0 (f_X12_findsPresses l0 l1 z1.2)).bind fun z11 =>
    (gI z11 12 l0 31).bind fun x15 =>
    some (x15, z11)
-- PulseRemoteModel.neededTolerance(I)I
noncomputable def f_X12_neededTolerance_70  (μ : MS) : Option ((Int32 × MS)) :=
  some ((-9), μ)
noncomputable def f_X12_neededTolerance_62 (l2 : Int32) (μ : MS) : Option ((Int32 × MS)) :=
  some (l2, μ)
noncomputable def f_X12_neededTolerance_58 (l0 : Nat) (l2 : Int32) (l3 : Int32) (μ : MS) : Option (((Nat × Int32 × MS) ⊕ (Int32 × MS))) :=
  if l3 = 0 then
    (some (l2 + 1)).bind fun v64 =>
    some (.inl (l0, v64, μ))
  else
    xr (f_X12_neededTolerance_62 l2 μ)
noncomputable def f_X12_neededTolerance_32_b (l0 : Nat) (l2 : Int32) (l3 : Int32) (l4 : Int32) (μ : MS) : Option (((Nat × Int32 × Int32 × Int32 × MS) ⊕ ((Nat × Int32 × MS) ⊕ (Int32 × MS)))) :=
  (gI μ 12 l0 21).bind fun x35 =>
  if x35 ≤ l4 then
    xr (f_X12_neededTolerance_58 l0 l2 l3 μ)
  else
    if l3 = 0 then
      xr (f_X12_neededTolerance_58 l0 l2 l3 μ)
    else
      (isO μ 12 l0 (f_X12_decodes l0 l4 μ)).bind fun z48 =>
      (some (l4 + 1)).bind fun v52 =>
      some (.inl (l0, l2, z48.1, v52, z48.2))
noncomputable def f_X12_neededTolerance_32 (l0 : Nat) (l2 : Int32) (l3 : Int32) (l4 : Int32) (μ : MS) : Option (((Nat × Int32 × MS) ⊕ (Int32 × MS))) := lp (fun s : Nat × Int32 × Int32 × Int32 × MS => f_X12_neededTolerance_32_b s.1 s.2.1 s.2.2.1 s.2.2.2.1 s.2.2.2.2) (l0, l2, l3, l4, μ)
noncomputable def f_X12_neededTolerance_16_b (l0 : Nat) (l2 : Int32) (μ : MS) : Option (((Nat × Int32 × MS) ⊕ (Int32 × MS))) :=
  if 41 ≤ l2 then
    xr (f_X12_neededTolerance_70 μ)
  else
    (pI μ 12 l0 22 l2).bind fun m24 =>
    f_X12_neededTolerance_32 l0 l2 1 0 m24
noncomputable def f_X12_neededTolerance_16 (l0 : Nat) (l2 : Int32) (μ : MS) : Option ((Int32 × MS)) := lp (fun s : Nat × Int32 × MS => f_X12_neededTolerance_16_b s.1 s.2.1 s.2.2) (l0, l2, μ)
noncomputable def f_X12_neededTolerance (l0 : Nat) (l1 : Int32) (μ : MS) : Option ((Int32 × MS)) :=
  (f_X12_isSlot l1 μ).bind fun z1 =>
  if z1.1 = 0 then
    some ((-1), z1.2)
  else
    (isO z1.2 12 l0 (f_X12_opens l0 l1 z1.2)).bind fun z11 =>
    f_X12_neededTolerance_16 l0 0 z11
-- PulseRemoteModel.findsClusters(I)V
noncomputable def f_X12_findsClusters_242  (μ : MS) : Option (MS) :=
  some μ
noncomputable def f_X12_findsClusters_236 (l0 : Nat) (l2 : Int32) (l3 : Int32) (l4 : Int32) (μ : MS) : Option (((Nat × Int32 × Int32 × Int32 × MS) ⊕ MS)) :=
  (some (l4 + 1)).bind fun v236 =>
  some (.inl (l0, l2, l3, v236, μ))
noncomputable def f_X12_findsClusters_202 (l0 : Nat) (l2 : Int32) (l3 : Int32) (l4 : Int32) (μ : MS) : Option (((Nat × Int32 × Int32 × Int32 × MS) ⊕ MS)) :=
  (gR μ 12 l0 35).bind fun x203 =>
  (gI μ 12 l0 34).bind fun x207 =>
  (dvI l2 ((l4 + 1) - l3)).bind fun v217 =>
  (sI μ 15 x203 x207 v217).bind fun m218 =>
  (gI m218 12 l0 34).bind fun x221 =>
  (pI m218 12 l0 34 (x221 + 1)).bind fun m226 =>
  (some (l4 + 1)).bind fun v235 =>
  f_X12_findsClusters_236 l0 0 v235 l4 m226
noncomputable def f_X12_findsClusters_149_b (l0 : Nat) (l2 : Int32) (l3 : Int32) (l4 : Int32) (μ : MS) : Option (((Nat × Int32 × Int32 × Int32 × MS) ⊕ MS)) :=
  (gI μ 12 l0 33).bind fun x152 =>
  if x152 ≤ l4 then
    xr (f_X12_findsClusters_242 μ)
  else
    (gR μ 12 l0 32).bind fun x160 =>
    (aI μ 15 x160 l4).bind fun x165 =>
    (some (l2 + x165)).bind fun v167 =>
    (gI μ 12 l0 33).bind fun x173 =>
    if (l4 + 1) = x173 then
      f_X12_findsClusters_202 l0 v167 l3 l4 μ
    else
      (gR μ 12 l0 32).bind fun x181 =>
      (aI μ 15 x181 (l4 + 1)).bind fun x188 =>
      (gR μ 12 l0 32).bind fun x192 =>
      (aI μ 15 x192 l4).bind fun x197 =>
      if (2 * x188) ≤ (3 * x197) then
        f_X12_findsClusters_236 l0 v167 l3 l4 μ
      else
        f_X12_findsClusters_202 l0 v167 l3 l4 μ
noncomputable def f_X12_findsClusters_149 (l0 : Nat) (l2 : Int32) (l3 : Int32) (l4 : Int32) (μ : MS) : Option (MS) := lp (fun s : Nat × Int32 × Int32 × Int32 × MS => f_X12_findsClusters_149_b s.1 s.2.1 s.2.2.1 s.2.2.2.1 s.2.2.2.2) (l0, l2, l3, l4, μ)
noncomputable def f_X12_findsClusters_137 (l0 : Nat) (μ : MS) : Option (MS) :=
  (pI μ 12 l0 34 0).bind fun m139 =>
  f_X12_findsClusters_149 l0 0 0 0 m139
noncomputable def f_X12_findsClusters_131 (l0 : Nat) (l1 : Int32) (l2 : Int32) (μ : MS) : Option (((Nat × Int32 × Int32 × MS) ⊕ MS)) :=
  (some (l2 + 1)).bind fun v131 =>
  some (.inl (l0, l1, v131, μ))
noncomputable def f_X12_findsClusters_106 (l0 : Nat) (l1 : Int32) (l2 : Int32) (l3 : Int32) (l4 : Int32) (l5 : Int32) (μ : MS) : Option (((Nat × Int32 × Int32 × Int32 × MS) ⊕ ((Nat × Int32 × Int32 × MS) ⊕ MS))) :=
  (gR μ 12 l0 32).bind fun x107 =>
  (sI μ 15 x107 l5 l4).bind fun m114 =>
  (gI m114 12 l0 33).bind fun x117 =>
  (pI m114 12 l0 33 (x117 + 1)).bind fun m122 =>
  (some (l3 + 2)).bind fun v125 =>
  some (.inl (l0, l1, l2, v125, m122))
noncomputable def f_X12_findsClusters_65_b (l0 : Nat) (l1 : Int32) (l2 : Int32) (l3 : Int32) (l4 : Int32) (l5 : Int32) (μ : MS) : Option (((Nat × Int32 × Int32 × Int32 × Int32 × Int32 × MS) ⊕ ((Nat × Int32 × Int32 × Int32 × MS) ⊕ ((Nat × Int32 × Int32 × MS) ⊕ MS)))) :=
  if l5 ≤ 0 then
    xr (f_X12_findsClusters_106 l0 l1 l2 l3 l4 l5 μ)
  else
    (gR μ 12 l0 32).bind fun x71 =>
    (aI μ 15 x71 (l5 - 1)).bind fun x78 =>
    if x78 ≤ l4 then
      xr (f_X12_findsClusters_106 l0 l1 l2 l3 l4 l5 μ)
    else
      (gR μ 12 l0 32).bind fun x85 =>
      (gR μ 12 l0 32).bind fun x91 =>
      (aI μ 15 x91 (l5 - 1)).bind fun x98 =>
      (sI μ 15 x85 l5 x98).bind fun m99 =>
      (some (l5 + (-1))).bind fun v100 =>
      some (.inl (l0, l1, l2, l3, l4, v100, m99))
noncomputable def f_X12_findsClusters_65 (l0 : Nat) (l1 : Int32) (l2 : Int32) (l3 : Int32) (l4 : Int32) (l5 : Int32) (μ : MS) : Option (((Nat × Int32 × Int32 × Int32 × MS) ⊕ ((Nat × Int32 × Int32 × MS) ⊕ MS))) := lp (fun s : Nat × Int32 × Int32 × Int32 × Int32 × Int32 × MS => f_X12_findsClusters_65_b s.1 s.2.1 s.2.2.1 s.2.2.2.1 s.2.2.2.2.1 s.2.2.2.2.2.1 s.2.2.2.2.2.2) (l0, l1, l2, l3, l4, l5, μ)
noncomputable def f_X12_findsClusters_19_b (l0 : Nat) (l1 : Int32) (l2 : Int32) (l3 : Int32) (μ : MS) : Option (((Nat × Int32 × Int32 × Int32 × MS) ⊕ ((Nat × Int32 × Int32 × MS) ⊕ MS))) :=
  (gR μ 12 l0 20).bind fun x21 =>
  (aI μ 15 x21 l2).bind fun x25 =>
  if x25 ≤ l3 then
    xr (f_X12_findsClusters_131 l0 l1 l2 μ)
  else
    (gR μ 12 l0 20).bind fun x30 =>
    (aI μ 15 x30 l2).bind fun x34 =>
    (gR μ 12 l0 20).bind fun x36 =>
    (aI μ 15 x36 0).bind fun x40 =>
    if x34 = x40 then
      (gR μ 12 l0 13).bind fun x45 =>
      (gR μ 12 l0 19).bind fun x49 =>
      (aI μ 15 x49 l2).bind fun x53 =>
      (aI μ 15 x45 (x53 + l3)).bind fun x56 =>
      (gI μ 12 l0 33).bind fun x60 =>
      f_X12_findsClusters_65 l0 l1 l2 l3 x56 x60 μ
    else
      xr (f_X12_findsClusters_131 l0 l1 l2 μ)
noncomputable def f_X12_findsClusters_19 (l0 : Nat) (l1 : Int32) (l2 : Int32) (l3 : Int32) (μ : MS) : Option (((Nat × Int32 × Int32 × MS) ⊕ MS)) := lp (fun s : Nat × Int32 × Int32 × Int32 × MS => f_X12_findsClusters_19_b s.1 s.2.1 s.2.2.1 s.2.2.2.1 s.2.2.2.2) (l0, l1, l2, l3, μ)
noncomputable def f_X12_findsClusters_7_b (l0 : Nat) (l1 : Int32) (l2 : Int32) (μ : MS) : Option (((Nat × Int32 × Int32 × MS) ⊕ MS)) :=
  (gI μ 12 l0 21).bind fun x9 =>
  if x9 ≤ l2 then
    xr (f_X12_findsClusters_137 l0 μ)
  else
    (some (2 + l1)).bind fun v18 =>
    f_X12_findsClusters_19 l0 l1 l2 v18 μ
noncomputable def f_X12_findsClusters_7 (l0 : Nat) (l1 : Int32) (l2 : Int32) (μ : MS) : Option (MS) := lp (fun s : Nat × Int32 × Int32 × MS => f_X12_findsClusters_7_b s.1 s.2.1 s.2.2.1 s.2.2.2) (l0, l1, l2, μ)
noncomputable def f_X12_findsClusters (l0 : Nat) (l1 : Int32) (μ : MS) : Option (MS) :=
  (pI μ 12 l0 33 0).bind fun m2 =>
  f_X12_findsClusters_7 l0 l1 0 m2
-- PulseRemoteModel.meanOf(I)I
noncomputable def f_X12_meanOf_83 (l2 : Int32) (l3 : Int32) (μ : MS) : Option ((Int32 × MS)) :=
  (dvI l2 l3).bind fun v85 =>
  some (v85, μ)
noncomputable def f_X12_meanOf_75 (l0 : Nat) (l1 : Int32) (l2 : Int32) (l4 : Int32) (s0 : Int32) (s1 : Int32) (μ : MS) : Option (((Nat × Int32 × Int32 × Int32 × Int32 × MS) ⊕ (Int32 × MS))) :=
  (some (s1 + s0)).bind fun v76 =>
  (some (l4 + 1)).bind fun v77 =>
  some (.inl (l0, l1, l2, v76, v77, μ))
noncomputable def f_X12_meanOf_51 (l0 : Nat) (l1 : Int32) (l3 : Int32) (l4 : Int32) (s0 : Int32) (s1 : Int32) (μ : MS) : Option (((Nat × Int32 × Int32 × Int32 × Int32 × MS) ⊕ (Int32 × MS))) :=
  (some (s1 + s0)).bind fun v52 =>
  (gR μ 12 l0 20).bind fun x55 =>
  (aI μ 15 x55 l4).bind fun x60 =>
  (gR μ 12 l0 20).bind fun x62 =>
  (aI μ 15 x62 0).bind fun x66 =>
  if x60 = x66 then
    f_X12_meanOf_75 l0 l1 v52 l4 1 l3 μ
  else
    f_X12_meanOf_75 l0 l1 v52 l4 0 l3 μ
noncomputable def f_X12_meanOf_7_b (l0 : Nat) (l1 : Int32) (l2 : Int32) (l3 : Int32) (l4 : Int32) (μ : MS) : Option (((Nat × Int32 × Int32 × Int32 × Int32 × MS) ⊕ (Int32 × MS))) :=
  (gI μ 12 l0 21).bind fun x10 =>
  if x10 ≤ l4 then
    xr (f_X12_meanOf_83 l2 l3 μ)
  else
    (gR μ 12 l0 20).bind fun x18 =>
    (aI μ 15 x18 l4).bind fun x23 =>
    (gR μ 12 l0 20).bind fun x25 =>
    (aI μ 15 x25 0).bind fun x29 =>
    if x23 = x29 then
      (gR μ 12 l0 13).bind fun x34 =>
      (gR μ 12 l0 19).bind fun x38 =>
      (aI μ 15 x38 l4).bind fun x43 =>
      (aI μ 15 x34 (x43 + l1)).bind fun x46 =>
      f_X12_meanOf_51 l0 l1 l3 l4 x46 l2 μ
    else
      f_X12_meanOf_51 l0 l1 l3 l4 0 l2 μ
noncomputable def f_X12_meanOf_7 (l0 : Nat) (l1 : Int32) (l2 : Int32) (l3 : Int32) (l4 : Int32) (μ : MS) : Option ((Int32 × MS)) := lp (fun s : Nat × Int32 × Int32 × Int32 × Int32 × MS => f_X12_meanOf_7_b s.1 s.2.1 s.2.2.1 s.2.2.2.1 s.2.2.2.2.1 s.2.2.2.2.2) (l0, l1, l2, l3, l4, μ)
noncomputable def f_X12_meanOf (l0 : Nat) (l1 : Int32) (μ : MS) : Option ((Int32 × MS)) :=
  f_X12_meanOf_7 l0 l1 0 0 0 μ
-- PulseRemoteModel.clusters(II)I
noncomputable def f_X12_clusters (l0 : Nat) (l1 : Int32) (l2 : Int32) (μ : MS) : Option ((Int32 × MS)) :=
  (f_X12_isSlot l1 μ).bind fun z1 =>
  if z1.1 = 0 then
    some ((-1), z1.2)
  else
    (f_X12_in l2 0 1 z1.2).bind fun z10 =>
    if z10.1 = 0 then
      some ((-1), z10.2)
    else
      (isO z10.2 12 l0 (f_X12_opens l0 l1 z10.2)).bind fun z20 =>
      (gI z20 12 l0 21).bind fun x24 =>
      if x24 = 0 then
        some ((-2), z20)
      else
        (gR z20 12 l0 20).bind fun x31 =>
        (aI z20 15 x31 0).bind fun x35 =>
        if 5 ≤ x35 then
          (isO z20 12 l0 (f_X12_findsClusters l0 l2 z20)).bind fun z45 =>
          (gI z45 12 l0 34).bind fun x49 =>
          some (x49, z45)
        else
          some ((-2), z20)
-- PulseRemoteModel.learn(I)I
noncomputable def f_X12_learn_287 (l0 : Nat) (l7 : Int32) (l8 : Int32) (l9 : Int32) (l10 : Int32) (l11 : Int32) (s0 : Int32) (s1 : Int32) (s2 : Nat) (μ : MS) : Option ((Int32 × MS)) :=
  (isO μ 12 s2 (f_X12_addsProtocol s2 s1 s0 0 0 μ)).bind fun z289 =>
  (gR z289 12 l0 0).bind fun x294 =>
  (aI z289 15 x294 3).bind fun x298 =>
  (isO z289 12 l0 (f_X12_setsLengths l0 (x298 - 1) l10 l11 l7 l8 l9 z289)).bind fun z311 =>
  (gR z311 12 l0 0).bind fun x315 =>
  (aI z311 15 x315 3).bind fun x319 =>
  some (x319 - 1, z311)
noncomputable def f_X12_learn_259 (l0 : Nat) (l5 : Int32) (l7 : Int32) (l8 : Int32) (l9 : Int32) (l10 : Int32) (l11 : Int32) (s0 : Int32) (s1 : Nat) (μ : MS) : Option ((Int32 × MS)) :=
  if l5 = 0 then
    (gR μ 12 l0 20).bind fun x278 =>
    (aI μ 15 x278 0).bind fun x282 =>
    (dvI (x282 - 1) 2).bind fun v286 =>
    f_X12_learn_287 l0 l7 l8 l9 l10 l11 v286 s0 s1 μ
  else
    (gR μ 12 l0 20).bind fun x265 =>
    (aI μ 15 x265 0).bind fun x269 =>
    (dvI (x269 - 3) 2).bind fun v273 =>
    f_X12_learn_287 l0 l7 l8 l9 l10 l11 v273 s0 s1 μ
noncomputable def f_X12_learn_210 (l0 : Nat) (l5 : Int32) (l7 : Int32) (l8 : Int32) (l9 : Int32) (l10 : Int32) (l11 : Int32) (μ : MS) : Option ((Int32 × MS)) :=
  (f_X12_areLengths 0 l10 l11 l7 l8 l9 μ).bind fun z221 =>
  if z221.1 = 0 then
    some ((-2), z221.2)
  else
    (gR z221.2 12 l0 0).bind fun x231 =>
    (aI z221.2 15 x231 3).bind fun x235 =>
    if x235 = 6 then
      some ((-3), z221.2)
    else
      (isO z221.2 12 l0 (f_X12_note l0 z221.2)).bind fun z245 =>
      if l5 = 0 then
        f_X12_learn_259 l0 l5 l7 l8 l9 l10 l11 1 l0 z245
      else
        f_X12_learn_259 l0 l5 l7 l8 l9 l10 l11 0 l0 z245
noncomputable def f_X12_learn_184 (l0 : Nat) (l5 : Int32) (l6 : Int32) (l7 : Int32) (l8 : Int32) (s0 : Int32) (μ : MS) : Option ((Int32 × MS)) :=
  (isO μ 12 l0 (f_X12_meanOf l0 0 μ)).bind fun z188 =>
  (isO z188.2 12 l0 (f_X12_meanOf l0 1 z188.2)).bind fun z195 =>
  if l5 = 0 then
    if l6 = 0 then
      some ((-2), z195.2)
    else
      f_X12_learn_210 l0 l5 l7 l8 s0 z188.1 z195.1 z195.2
  else
    f_X12_learn_210 l0 l5 l7 l8 s0 z188.1 z195.1 z195.2
noncomputable def f_X12_learn_166 (l0 : Nat) (l4 : Int32) (l5 : Int32) (l6 : Int32) (l7 : Int32) (s0 : Int32) (μ : MS) : Option ((Int32 × MS)) :=
  if l5 = 0 then
    f_X12_learn_184 l0 l5 l6 l7 s0 l4 μ
  else
    (gR μ 12 l0 35).bind fun x174 =>
    (aI μ 15 x174 1).bind fun x178 =>
    f_X12_learn_184 l0 l5 l6 l7 s0 x178 μ
noncomputable def f_X12_learn_149 (l0 : Nat) (l3 : Int32) (l4 : Int32) (l5 : Int32) (l6 : Int32) (s0 : Int32) (μ : MS) : Option ((Int32 × MS)) :=
  if l5 = 0 then
    f_X12_learn_166 l0 l4 l5 l6 s0 l3 μ
  else
    (gR μ 12 l0 35).bind fun x157 =>
    (aI μ 15 x157 0).bind fun x161 =>
    f_X12_learn_166 l0 l4 l5 l6 s0 x161 μ
noncomputable def f_X12_learn_132 (l0 : Nat) (l3 : Int32) (l4 : Int32) (l5 : Int32) (s0 : Int32) (μ : MS) : Option ((Int32 × MS)) :=
  if l5 = 0 then
    (gR μ 12 l0 35).bind fun x144 =>
    (aI μ 15 x144 0).bind fun x148 =>
    f_X12_learn_149 l0 l3 l4 l5 s0 x148 μ
  else
    f_X12_learn_149 l0 l3 l4 l5 s0 l3 μ
noncomputable def f_X12_learn_131 (l0 : Nat) (l3 : Int32) (l4 : Int32) (l5 : Int32) (μ : MS) : Option ((Int32 × MS)) :=
  f_X12_learn_132 l0 l3 l4 l5 0 μ
noncomputable def f_X12_learn_97 (l0 : Nat) (l2 : Int32) (l3 : Int32) (l4 : Int32) (s0 : Int32) (μ : MS) : Option ((Int32 × MS)) :=
  if l2 = 2 then
    (gI μ 12 l0 34).bind fun x105 =>
    if x105 = 1 then
      (gR μ 12 l0 20).bind fun x113 =>
      (aI μ 15 x113 0).bind fun x117 =>
      (dvI (x117 - 1) 2).bind fun v121 =>
      if 16 < v121 then
        f_X12_learn_131 l0 l3 l4 s0 μ
      else
        f_X12_learn_132 l0 l3 l4 s0 1 μ
    else
      f_X12_learn_131 l0 l3 l4 s0 μ
  else
    f_X12_learn_131 l0 l3 l4 s0 μ
noncomputable def f_X12_learn_96 (l0 : Nat) (l2 : Int32) (l3 : Int32) (l4 : Int32) (μ : MS) : Option ((Int32 × MS)) :=
  f_X12_learn_97 l0 l2 l3 l4 0 μ
noncomputable def f_X12_learn (l0 : Nat) (l1 : Int32) (μ : MS) : Option ((Int32 × MS)) :=
  (f_X12_isSlot l1 μ).bind fun z1 =>
  if z1.1 = 0 then
    some ((-1), z1.2)
  else
    (isO z1.2 12 l0 (f_X12_opens l0 l1 z1.2)).bind fun z11 =>
    (gI z11 12 l0 21).bind fun x15 =>
    if x15 = 0 then
      some ((-2), z11)
    else
      (gR z11 12 l0 20).bind fun x22 =>
      (aI z11 15 x22 0).bind fun x26 =>
      if 5 ≤ x26 then
        (isO z11 12 l0 (f_X12_findsClusters l0 0 z11)).bind fun z36 =>
        (gI z36 12 l0 34).bind fun x40 =>
        (gR z36 12 l0 35).bind fun x45 =>
        (aI z36 15 x45 0).bind fun x49 =>
        (gR z36 12 l0 35).bind fun x52 =>
        (aI z36 15 x52 1).bind fun x56 =>
        (isO z36 12 l0 (f_X12_findsClusters l0 1 z36)).bind fun z61 =>
        if x40 = 1 then
          (gI z61 12 l0 34).bind fun x70 =>
          if x70 = 2 then
            (gR z61 12 l0 20).bind fun x78 =>
            (aI z61 15 x78 0).bind fun x82 =>
            (dvI (x82 - 3) 2).bind fun v86 =>
            if 16 < v86 then
              f_X12_learn_96 l0 x40 x49 x56 z61
            else
              f_X12_learn_97 l0 x40 x49 x56 1 z61
          else
            f_X12_learn_96 l0 x40 x49 x56 z61
        else
          f_X12_learn_96 l0 x40 x49 x56 z61
      else
        some ((-2), z11)
-- PulseRemoteModel.collides(III)V
noncomputable def f_X12_collides_136 (l0 : Nat) (l3 : Int32) (μ : MS) : Option (MS) :=
  (isO μ 12 l0 (f_X12_overlays l0 l3 μ)).bind fun z138 =>
  some z138
noncomputable def f_X12_collides_107_b (l0 : Nat) (l3 : Int32) (l4 : Int32) (μ : MS) : Option (((Nat × Int32 × Int32 × MS) ⊕ MS)) :=
  (gI μ 12 l0 12).bind fun x110 =>
  if x110 ≤ l4 then
    xr (f_X12_collides_136 l0 l3 μ)
  else
    (gR μ 12 l0 13).bind fun x117 =>
    (gR μ 12 l0 11).bind fun x123 =>
    (aI μ 15 x123 l4).bind fun x128 =>
    (sI μ 15 x117 l4 x128).bind fun m129 =>
    (some (l4 + 1)).bind fun v130 =>
    some (.inl (l0, l3, v130, m129))
noncomputable def f_X12_collides_107 (l0 : Nat) (l3 : Int32) (l4 : Int32) (μ : MS) : Option (MS) := lp (fun s : Nat × Int32 × Int32 × MS => f_X12_collides_107_b s.1 s.2.1 s.2.2.1 s.2.2.2) (l0, l3, l4, μ)
noncomputable def f_X12_collides_68 (l0 : Nat) (l1 : Int32) (l3 : Int32) (μ : MS) : Option (MS) :=
  (gR μ 12 l0 0).bind fun x70 =>
  (aI μ 15 x70 (59 + (2 * l1))).bind fun x79 =>
  (gR μ 12 l0 0).bind fun x81 =>
  (aI μ 15 x81 ((59 + (2 * l1)) + 1)).bind fun x92 =>
  (isO μ 12 l0 (f_X12_makes l0 x79 x92 μ)).bind fun z93 =>
  (gI z93 12 l0 12).bind fun x98 =>
  (pI z93 12 l0 14 x98).bind fun m101 =>
  f_X12_collides_107 l0 l3 0 m101
noncomputable def f_X12_collides_39_b (l0 : Nat) (l1 : Int32) (l3 : Int32) (l4 : Int32) (μ : MS) : Option (((Nat × Int32 × Int32 × Int32 × MS) ⊕ MS)) :=
  (gI μ 12 l0 12).bind fun x42 =>
  if x42 ≤ l4 then
    xr (f_X12_collides_68 l0 l1 l3 μ)
  else
    (gR μ 12 l0 15).bind fun x49 =>
    (gR μ 12 l0 11).bind fun x55 =>
    (aI μ 15 x55 l4).bind fun x60 =>
    (sI μ 15 x49 l4 x60).bind fun m61 =>
    (some (l4 + 1)).bind fun v62 =>
    some (.inl (l0, l1, l3, v62, m61))
noncomputable def f_X12_collides_39 (l0 : Nat) (l1 : Int32) (l3 : Int32) (l4 : Int32) (μ : MS) : Option (MS) := lp (fun s : Nat × Int32 × Int32 × Int32 × MS => f_X12_collides_39_b s.1 s.2.1 s.2.2.1 s.2.2.2.1 s.2.2.2.2) (l0, l1, l3, l4, μ)
noncomputable def f_X12_collides (l0 : Nat) (l1 : Int32) (l2 : Int32) (l3 : Int32) (μ : MS) : Option (MS) :=
  (gR μ 12 l0 0).bind fun x2 =>
  (aI μ 15 x2 (59 + (2 * l2))).bind fun x11 =>
  (gR μ 12 l0 0).bind fun x13 =>
  (aI μ 15 x13 ((59 + (2 * l2)) + 1)).bind fun x24 =>
  (isO μ 12 l0 (f_X12_makes l0 x11 x24 μ)).bind fun z25 =>
  (gI z25 12 l0 12).bind fun x30 =>
  (pI z25 12 l0 16 x30).bind fun m33 =>
  f_X12_collides_39 l0 l1 l3 0 m33
-- PulseRemoteModel.isLike(I)Z
noncomputable def f_X12_isLike_64 (l2 : Int32) (μ : MS) : Option ((Int32 × MS)) :=
  rZ l2 μ
noncomputable def f_X12_isLike_24_b (l0 : Nat) (l1 : Int32) (l2 : Int32) (l3 : Int32) (μ : MS) : Option (((Nat × Int32 × Int32 × Int32 × MS) ⊕ (Int32 × MS))) :=
  (gI μ 12 l0 14).bind fun x26 =>
  if x26 ≤ l3 then
    xr (f_X12_isLike_64 l2 μ)
  else
    if l2 = 0 then
      xr (f_X12_isLike_64 l2 μ)
    else
      (gR μ 12 l0 0).bind fun x38 =>
      (f_X12_trainAt l1 μ).bind fun z42 =>
      (aI z42.2 15 x38 (z42.1 + l3)).bind fun x47 =>
      (gR z42.2 12 l0 13).bind fun x49 =>
      (aI z42.2 15 x49 l3).bind fun x53 =>
      (isO z42.2 12 l0 (f_X12_matches l0 x47 x53 z42.2)).bind fun z54 =>
      (some (l3 + 1)).bind fun v58 =>
      some (.inl (l0, l1, z54.1, v58, z54.2))
noncomputable def f_X12_isLike_24 (l0 : Nat) (l1 : Int32) (l2 : Int32) (l3 : Int32) (μ : MS) : Option ((Int32 × MS)) := lp (fun s : Nat × Int32 × Int32 × Int32 × MS => f_X12_isLike_24_b s.1 s.2.1 s.2.2.1 s.2.2.2.1 s.2.2.2.2) (l0, l1, l2, l3, μ)
noncomputable def f_X12_isLike_21 (l0 : Nat) (l1 : Int32) (s0 : Int32) (μ : MS) : Option ((Int32 × MS)) :=
  f_X12_isLike_24 l0 l1 s0 0 μ
noncomputable def f_X12_isLike (l0 : Nat) (l1 : Int32) (μ : MS) : Option ((Int32 × MS)) :=
  (gR μ 12 l0 0).bind fun x1 =>
  (aI μ 15 x1 (83 + l1)).bind fun x8 =>
  (gI μ 12 l0 14).bind fun x10 =>
  if x8 = x10 then
    f_X12_isLike_21 l0 l1 1 μ
  else
    f_X12_isLike_21 l0 l1 0 μ
-- PulseRemoteModel.explain(III)I
noncomputable def f_X12_explain_142  (μ : MS) : Option ((Int32 × MS)) :=
  some ((-9), μ)
noncomputable def f_X12_explain_136 (l0 : Nat) (l1 : Int32) (l2 : Int32) (l3 : Int32) (l4 : Int32) (μ : MS) : Option (((Nat × Int32 × Int32 × Int32 × Int32 × MS) ⊕ (Int32 × MS))) :=
  (some (l4 + 1)).bind fun v136 =>
  some (.inl (l0, l1, l2, l3, v136, μ))
noncomputable def f_X12_explain_130 (l0 : Nat) (l1 : Int32) (l2 : Int32) (l3 : Int32) (l4 : Int32) (l5 : Int32) (μ : MS) : Option (((Nat × Int32 × Int32 × Int32 × Int32 × Int32 × MS) ⊕ ((Nat × Int32 × Int32 × Int32 × Int32 × MS) ⊕ (Int32 × MS)))) :=
  (some (l5 + 1)).bind fun v130 =>
  some (.inl (l0, l1, l2, l3, l4, v130, μ))
noncomputable def f_X12_explain_100 (l2 : Int32) (l3 : Int32) (l4 : Int32) (l5 : Int32) (l6 : Int32) (μ : MS) : Option ((Int32 × MS)) :=
  if l3 = 0 then
    some (l4, μ)
  else
    if l3 = 1 then
      some (l5, μ)
    else
      some (l6 * l2, μ)
noncomputable def f_X12_explain_73_b (l0 : Nat) (l1 : Int32) (l2 : Int32) (l3 : Int32) (l4 : Int32) (l5 : Int32) (l6 : Int32) (μ : MS) : Option (((Nat × Int32 × Int32 × Int32 × Int32 × Int32 × Int32 × MS) ⊕ ((Nat × Int32 × Int32 × Int32 × Int32 × Int32 × MS) ⊕ ((Nat × Int32 × Int32 × Int32 × Int32 × MS) ⊕ (Int32 × MS))))) :=
  if 30 ≤ l6 then
    xr (f_X12_explain_130 l0 l1 l2 l3 l4 l5 μ)
  else
    (isO μ 12 l0 (f_X12_collides l0 l4 l5 (l6 * l2) μ)).bind fun z89 =>
    (isO z89 12 l0 (f_X12_isLike l0 l1 z89)).bind fun z94 =>
    if z94.1 = 0 then
      (some (l6 + 1)).bind fun v124 =>
      some (.inl (l0, l1, l2, l3, l4, l5, v124, z94.2))
    else
      xr (xr (xr (f_X12_explain_100 l2 l3 l4 l5 l6 z94.2)))
noncomputable def f_X12_explain_73 (l0 : Nat) (l1 : Int32) (l2 : Int32) (l3 : Int32) (l4 : Int32) (l5 : Int32) (l6 : Int32) (μ : MS) : Option (((Nat × Int32 × Int32 × Int32 × Int32 × Int32 × MS) ⊕ ((Nat × Int32 × Int32 × Int32 × Int32 × MS) ⊕ (Int32 × MS)))) := lp (fun s : Nat × Int32 × Int32 × Int32 × Int32 × Int32 × Int32 × MS => f_X12_explain_73_b s.1 s.2.1 s.2.2.1 s.2.2.2.1 s.2.2.2.2.1 s.2.2.2.2.2.1 s.2.2.2.2.2.2.1 s.2.2.2.2.2.2.2) (l0, l1, l2, l3, l4, l5, l6, μ)
noncomputable def f_X12_explain_58_b (l0 : Nat) (l1 : Int32) (l2 : Int32) (l3 : Int32) (l4 : Int32) (l5 : Int32) (μ : MS) : Option (((Nat × Int32 × Int32 × Int32 × Int32 × Int32 × MS) ⊕ ((Nat × Int32 × Int32 × Int32 × Int32 × MS) ⊕ (Int32 × MS)))) :=
  (gR μ 12 l0 0).bind fun x61 =>
  (aI μ 15 x61 58).bind fun x66 =>
  if x66 ≤ l5 then
    xr (f_X12_explain_136 l0 l1 l2 l3 l4 μ)
  else
    f_X12_explain_73 l0 l1 l2 l3 l4 l5 0 μ
noncomputable def f_X12_explain_58 (l0 : Nat) (l1 : Int32) (l2 : Int32) (l3 : Int32) (l4 : Int32) (l5 : Int32) (μ : MS) : Option (((Nat × Int32 × Int32 × Int32 × Int32 × MS) ⊕ (Int32 × MS))) := lp (fun s : Nat × Int32 × Int32 × Int32 × Int32 × Int32 × MS => f_X12_explain_58_b s.1 s.2.1 s.2.2.1 s.2.2.2.1 s.2.2.2.2.1 s.2.2.2.2.2.1 s.2.2.2.2.2.2) (l0, l1, l2, l3, l4, l5, μ)
noncomputable def f_X12_explain_43_b (l0 : Nat) (l1 : Int32) (l2 : Int32) (l3 : Int32) (l4 : Int32) (μ : MS) : Option (((Nat × Int32 × Int32 × Int32 × Int32 × MS) ⊕ (Int32 × MS))) :=
  (gR μ 12 l0 0).bind fun x46 =>
  (aI μ 15 x46 58).bind fun x51 =>
  if x51 ≤ l4 then
    xr (f_X12_explain_142 μ)
  else
    f_X12_explain_58 l0 l1 l2 l3 l4 0 μ
noncomputable def f_X12_explain_43 (l0 : Nat) (l1 : Int32) (l2 : Int32) (l3 : Int32) (l4 : Int32) (μ : MS) : Option ((Int32 × MS)) := lp (fun s : Nat × Int32 × Int32 × Int32 × Int32 × MS => f_X12_explain_43_b s.1 s.2.1 s.2.2.1 s.2.2.2.1 s.2.2.2.2.1 s.2.2.2.2.2) (l0, l1, l2, l3, l4, μ)
noncomputable def f_X12_explain (l0 : Nat) (l1 : Int32) (l2 : Int32) (l3 : Int32) (μ : MS) : Option ((Int32 × MS)) :=
  (f_X12_isSlot l1 μ).bind fun z1 =>
  if z1.1 = 0 then
    some ((-1), z1.2)
  else
    (f_X12_in l2 50 2000 z1.2).bind fun z13 =>
    if z13.1 = 0 then
      some ((-1), z13.2)
    else
      (f_X12_in l3 0 2 z13.2).bind fun z22 =>
      if z22.1 = 0 then
        some ((-1), z22.2)
      else
        (gR z22.2 12 l0 0).bind fun x32 =>
        (aI z22.2 15 x32 2).bind fun x36 =>
        (pI z22.2 12 l0 22 x36).bind fun m37 =>
        f_X12_explain_43 l0 l1 l2 l3 0 m37
-- PulseRemoteModel.ghosts(I)I
noncomputable def f_X12_ghosts_185 (l2 : Int32) (μ : MS) : Option ((Int32 × MS)) :=
  some (l2, μ)
noncomputable def f_X12_ghosts_179 (l0 : Nat) (l1 : Int32) (l2 : Int32) (l3 : Int32) (μ : MS) : Option (((Nat × Int32 × Int32 × Int32 × MS) ⊕ (Int32 × MS))) :=
  (some (l3 + 1)).bind fun v179 =>
  some (.inl (l0, l1, l2, v179, μ))
noncomputable def f_X12_ghosts_171 (l0 : Nat) (l1 : Int32) (l3 : Int32) (l4 : Int32) (s0 : Int32) (s1 : Int32) (μ : MS) : Option (((Nat × Int32 × Int32 × Int32 × Int32 × MS) ⊕ ((Nat × Int32 × Int32 × Int32 × MS) ⊕ (Int32 × MS)))) :=
  (some (s1 + s0)).bind fun v172 =>
  (some (l4 + 1)).bind fun v173 =>
  some (.inl (l0, l1, v172, l3, v173, μ))
noncomputable def f_X12_ghosts_160 (l0 : Nat) (l1 : Int32) (l2 : Int32) (l3 : Int32) (l4 : Int32) (l5 : Int32) (μ : MS) : Option (((Nat × Int32 × Int32 × Int32 × Int32 × MS) ⊕ ((Nat × Int32 × Int32 × Int32 × MS) ⊕ (Int32 × MS)))) :=
  if l5 = 0 then
    f_X12_ghosts_171 l0 l1 l3 l4 0 l2 μ
  else
    f_X12_ghosts_171 l0 l1 l3 l4 1 l2 μ
noncomputable def f_X12_ghosts_152 (l0 : Nat) (l1 : Int32) (l2 : Int32) (l3 : Int32) (l4 : Int32) (l6 : Int32) (s0 : Int32) (μ : MS) : Option (((Nat × Int32 × Int32 × Int32 × Int32 × Int32 × Int32 × MS) ⊕ ((Nat × Int32 × Int32 × Int32 × Int32 × MS) ⊕ ((Nat × Int32 × Int32 × Int32 × MS) ⊕ (Int32 × MS))))) :=
  (some (l6 + 1)).bind fun v154 =>
  some (.inl (l0, l1, l2, l3, l4, s0, v154, μ))
noncomputable def f_X12_ghosts_151 (l0 : Nat) (l1 : Int32) (l2 : Int32) (l3 : Int32) (l4 : Int32) (l6 : Int32) (μ : MS) : Option (((Nat × Int32 × Int32 × Int32 × Int32 × Int32 × Int32 × MS) ⊕ ((Nat × Int32 × Int32 × Int32 × Int32 × MS) ⊕ ((Nat × Int32 × Int32 × Int32 × MS) ⊕ (Int32 × MS))))) :=
  f_X12_ghosts_152 l0 l1 l2 l3 l4 l6 0 μ
noncomputable def f_X12_ghosts_147 (l0 : Nat) (l1 : Int32) (l2 : Int32) (l3 : Int32) (l4 : Int32) (l6 : Int32) (μ : MS) : Option (((Nat × Int32 × Int32 × Int32 × Int32 × Int32 × Int32 × MS) ⊕ ((Nat × Int32 × Int32 × Int32 × Int32 × MS) ⊕ ((Nat × Int32 × Int32 × Int32 × MS) ⊕ (Int32 × MS))))) :=
  f_X12_ghosts_152 l0 l1 l2 l3 l4 l6 1 μ
noncomputable def f_X12_ghosts_120 (l0 : Nat) (l1 : Int32) (l2 : Int32) (l3 : Int32) (l4 : Int32) (l5 : Int32) (l6 : Int32) (s0 : Int32) (μ : MS) : Option (((Nat × Int32 × Int32 × Int32 × Int32 × Int32 × Int32 × MS) ⊕ ((Nat × Int32 × Int32 × Int32 × Int32 × MS) ⊕ ((Nat × Int32 × Int32 × Int32 × MS) ⊕ (Int32 × MS))))) :=
  if l5 = 0 then
    if s0 = ((-9)) then
      f_X12_ghosts_151 l0 l1 l2 l3 l4 l6 μ
    else
      if s0 = l3 then
        f_X12_ghosts_151 l0 l1 l2 l3 l4 l6 μ
      else
        if s0 = l4 then
          f_X12_ghosts_151 l0 l1 l2 l3 l4 l6 μ
        else
          f_X12_ghosts_147 l0 l1 l2 l3 l4 l6 μ
  else
    f_X12_ghosts_147 l0 l1 l2 l3 l4 l6 μ
noncomputable def f_X12_ghosts_118 (l0 : Nat) (l1 : Int32) (l2 : Int32) (l3 : Int32) (l4 : Int32) (l5 : Int32) (l6 : Int32) (μ : MS) : Option (((Nat × Int32 × Int32 × Int32 × Int32 × Int32 × Int32 × MS) ⊕ ((Nat × Int32 × Int32 × Int32 × Int32 × MS) ⊕ ((Nat × Int32 × Int32 × Int32 × MS) ⊕ (Int32 × MS))))) :=
  f_X12_ghosts_120 l0 l1 l2 l3 l4 l5 l6 ((-9)) μ
noncomputable def f_X12_ghosts_70_b (l0 : Nat) (l1 : Int32) (l2 : Int32) (l3 : Int32) (l4 : Int32) (l5 : Int32) (l6 : Int32) (μ : MS) : Option (((Nat × Int32 × Int32 × Int32 × Int32 × Int32 × Int32 × MS) ⊕ ((Nat × Int32 × Int32 × Int32 × Int32 × MS) ⊕ ((Nat × Int32 × Int32 × Int32 × MS) ⊕ (Int32 × MS))))) :=
  (gI μ 12 l0 21).bind fun x73 =>
  if x73 ≤ l6 then
    xr (f_X12_ghosts_160 l0 l1 l2 l3 l4 l5 μ)
  else
    (isO μ 12 l0 (f_X12_decodes l0 l6 μ)).bind fun z82 =>
    if z82.1 = 0 then
      f_X12_ghosts_118 l0 l1 l2 l3 l4 l5 l6 z82.2
    else
      (gI z82.2 12 l0 28).bind fun x89 =>
      if x89 = 0 then
        (gI z82.2 12 l0 26).bind fun x97 =>
        (gI z82.2 12 l0 26).bind fun x102 =>
        (gI z82.2 12 l0 27).bind fun x106 =>
        (isO z82.2 12 l0 (f_X12_identity l0 x102 x106 z82.2)).bind fun z109 =>
        (isO z109.2 12 l0 (f_X12_buttonOf l0 x97 z109.1 z109.2)).bind fun z112 =>
        f_X12_ghosts_120 l0 l1 l2 l3 l4 l5 l6 z112.1 z112.2
      else
        f_X12_ghosts_118 l0 l1 l2 l3 l4 l5 l6 z82.2
noncomputable def f_X12_ghosts_70 (l0 : Nat) (l1 : Int32) (l2 : Int32) (l3 : Int32) (l4 : Int32) (l5 : Int32) (l6 : Int32) (μ : MS) : Option (((Nat × Int32 × Int32 × Int32 × Int32 × MS) ⊕ ((Nat × Int32 × Int32 × Int32 × MS) ⊕ (Int32 × MS)))) := lp (fun s : Nat × Int32 × Int32 × Int32 × Int32 × Int32 × Int32 × MS => f_X12_ghosts_70_b s.1 s.2.1 s.2.2.1 s.2.2.2.1 s.2.2.2.2.1 s.2.2.2.2.2.1 s.2.2.2.2.2.2.1 s.2.2.2.2.2.2.2) (l0, l1, l2, l3, l4, l5, l6, μ)
noncomputable def f_X12_ghosts_40_b (l0 : Nat) (l1 : Int32) (l2 : Int32) (l3 : Int32) (l4 : Int32) (μ : MS) : Option (((Nat × Int32 × Int32 × Int32 × Int32 × MS) ⊕ ((Nat × Int32 × Int32 × Int32 × MS) ⊕ (Int32 × MS)))) :=
  (gR μ 12 l0 0).bind fun x43 =>
  (aI μ 15 x43 58).bind fun x48 =>
  if x48 ≤ l4 then
    xr (f_X12_ghosts_179 l0 l1 l2 l3 μ)
  else
    (isO μ 12 l0 (f_X12_collides l0 l3 l4 l1 μ)).bind fun z57 =>
    (isO z57 12 l0 (f_X12_findsFrames l0 z57)).bind fun z61 =>
    f_X12_ghosts_70 l0 l1 l2 l3 l4 0 0 z61
noncomputable def f_X12_ghosts_40 (l0 : Nat) (l1 : Int32) (l2 : Int32) (l3 : Int32) (l4 : Int32) (μ : MS) : Option (((Nat × Int32 × Int32 × Int32 × MS) ⊕ (Int32 × MS))) := lp (fun s : Nat × Int32 × Int32 × Int32 × Int32 × MS => f_X12_ghosts_40_b s.1 s.2.1 s.2.2.1 s.2.2.2.1 s.2.2.2.2.1 s.2.2.2.2.2) (l0, l1, l2, l3, l4, μ)
noncomputable def f_X12_ghosts_26_b (l0 : Nat) (l1 : Int32) (l2 : Int32) (l3 : Int32) (μ : MS) : Option (((Nat × Int32 × Int32 × Int32 × MS) ⊕ (Int32 × MS))) :=
  (gR μ 12 l0 0).bind fun x28 =>
  (aI μ 15 x28 58).bind fun x33 =>
  if x33 ≤ l3 then
    xr (f_X12_ghosts_185 l2 μ)
  else
    f_X12_ghosts_40 l0 l1 l2 l3 l3 μ
noncomputable def f_X12_ghosts_26 (l0 : Nat) (l1 : Int32) (l2 : Int32) (l3 : Int32) (μ : MS) : Option ((Int32 × MS)) := lp (fun s : Nat × Int32 × Int32 × Int32 × MS => f_X12_ghosts_26_b s.1 s.2.1 s.2.2.1 s.2.2.2.1 s.2.2.2.2) (l0, l1, l2, l3, μ)
noncomputable def f_X12_ghosts (l0 : Nat) (l1 : Int32) (μ : MS) : Option ((Int32 × MS)) :=
  (f_X12_in l1 0 60000 μ).bind fun z4 =>
  if z4.1 = 0 then
    some ((-1), z4.2)
  else
    (gR z4.2 12 l0 0).bind fun x14 =>
    (aI z4.2 15 x14 2).bind fun x18 =>
    (pI z4.2 12 l0 22 x18).bind fun m19 =>
    f_X12_ghosts_26 l0 l1 0 0 m19
