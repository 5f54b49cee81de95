/-! printed by wip/whole/gen_law.py: the law's calls -/
theorem k_502 : Cond.methodLink "PulseRemoteLaw" 13 ⟨"PulseRemote", "addProtocol", "(IIII)I"⟩ ∈ GW := gw_of (List.mem_of_getElem? (i := 502) (by decide +kernel)) rfl
theorem k_561 : Cond.methodLink "PulseRemoteLaw" 18 ⟨"PulseRemote", "setLengths", "(IIIIII)I"⟩ ∈ GW := gw_of (List.mem_of_getElem? (i := 561) (by decide +kernel)) rfl
theorem k_577 : Cond.methodLink "PulseRemoteLaw" 23 ⟨"PulseRemote", "protocol", "(II)I"⟩ ∈ GW := gw_of (List.mem_of_getElem? (i := 577) (by decide +kernel)) rfl
theorem k_581 : Cond.methodLink "PulseRemoteLaw" 28 ⟨"PulseRemote", "count", "(I)I"⟩ ∈ GW := gw_of (List.mem_of_getElem? (i := 581) (by decide +kernel)) rfl
theorem k_585 : Cond.methodLink "PulseRemoteLaw" 33 ⟨"PulseRemote", "learn", "(I)I"⟩ ∈ GW := gw_of (List.mem_of_getElem? (i := 585) (by decide +kernel)) rfl
theorem k_665 : Cond.methodLink "PulseRemoteLaw" 37 ⟨"PulseRemote", "clusters", "(II)I"⟩ ∈ GW := gw_of (List.mem_of_getElem? (i := 665) (by decide +kernel)) rfl
theorem k_669 : Cond.methodLink "PulseRemoteLaw" 41 ⟨"PulseRemote", "addButton", "(II)I"⟩ ∈ GW := gw_of (List.mem_of_getElem? (i := 669) (by decide +kernel)) rfl
theorem k_709 : Cond.methodLink "PulseRemoteLaw" 45 ⟨"PulseRemote", "button", "(II)I"⟩ ∈ GW := gw_of (List.mem_of_getElem? (i := 709) (by decide +kernel)) rfl
theorem k_716 : Cond.methodLink "PulseRemoteLaw" 49 ⟨"PulseRemote", "setGap", "(I)I"⟩ ∈ GW := gw_of (List.mem_of_getElem? (i := 716) (by decide +kernel)) rfl
theorem k_721 : Cond.methodLink "PulseRemoteLaw" 53 ⟨"PulseRemote", "setHold", "(I)I"⟩ ∈ GW := gw_of (List.mem_of_getElem? (i := 721) (by decide +kernel)) rfl
theorem k_725 : Cond.methodLink "PulseRemoteLaw" 57 ⟨"PulseRemote", "setTolerance", "(I)I"⟩ ∈ GW := gw_of (List.mem_of_getElem? (i := 725) (by decide +kernel)) rfl
theorem k_729 : Cond.methodLink "PulseRemoteLaw" 61 ⟨"PulseRemote", "appendCharacter", "(I)I"⟩ ∈ GW := gw_of (List.mem_of_getElem? (i := 729) (by decide +kernel)) rfl
theorem k_737 : Cond.methodLink "PulseRemoteLaw" 65 ⟨"PulseRemote", "clearText", "()I"⟩ ∈ GW := gw_of (List.mem_of_getElem? (i := 737) (by decide +kernel)) rfl
theorem k_741 : Cond.methodLink "PulseRemoteLaw" 70 ⟨"PulseRemote", "load", "()I"⟩ ∈ GW := gw_of (List.mem_of_getElem? (i := 741) (by decide +kernel)) rfl
theorem k_851 : Cond.methodLink "PulseRemoteLaw" 74 ⟨"PulseRemote", "append", "(II)I"⟩ ∈ GW := gw_of (List.mem_of_getElem? (i := 851) (by decide +kernel)) rfl
theorem k_859 : Cond.methodLink "PulseRemoteLaw" 78 ⟨"PulseRemote", "send", "(IIII)I"⟩ ∈ GW := gw_of (List.mem_of_getElem? (i := 859) (by decide +kernel)) rfl
theorem k_885 : Cond.methodLink "PulseRemoteLaw" 82 ⟨"PulseRemote", "sendShort", "(III)I"⟩ ∈ GW := gw_of (List.mem_of_getElem? (i := 885) (by decide +kernel)) rfl
theorem k_893 : Cond.methodLink "PulseRemoteLaw" 87 ⟨"PulseRemote", "clear", "(I)I"⟩ ∈ GW := gw_of (List.mem_of_getElem? (i := 893) (by decide +kernel)) rfl
theorem k_897 : Cond.methodLink "PulseRemoteLaw" 91 ⟨"PulseRemote", "overlay", "(III)I"⟩ ∈ GW := gw_of (List.mem_of_getElem? (i := 897) (by decide +kernel)) rfl
theorem k_931 : Cond.methodLink "PulseRemoteLaw" 95 ⟨"PulseRemote", "distort", "(III)I"⟩ ∈ GW := gw_of (List.mem_of_getElem? (i := 931) (by decide +kernel)) rfl
theorem k_940 : Cond.methodLink "PulseRemoteLaw" 99 ⟨"PulseRemote", "duration", "(II)I"⟩ ∈ GW := gw_of (List.mem_of_getElem? (i := 940) (by decide +kernel)) rfl
theorem k_944 : Cond.methodLink "PulseRemoteLaw" 103 ⟨"PulseRemote", "length", "(I)I"⟩ ∈ GW := gw_of (List.mem_of_getElem? (i := 944) (by decide +kernel)) rfl
theorem k_948 : Cond.methodLink "PulseRemoteLaw" 107 ⟨"PulseRemote", "frameCount", "(I)I"⟩ ∈ GW := gw_of (List.mem_of_getElem? (i := 948) (by decide +kernel)) rfl
theorem k_952 : Cond.methodLink "PulseRemoteLaw" 111 ⟨"PulseRemote", "frame", "(III)I"⟩ ∈ GW := gw_of (List.mem_of_getElem? (i := 952) (by decide +kernel)) rfl
theorem k_1009 : Cond.methodLink "PulseRemoteLaw" 115 ⟨"PulseRemote", "deviation", "(II)I"⟩ ∈ GW := gw_of (List.mem_of_getElem? (i := 1009) (by decide +kernel)) rfl
theorem k_1022 : Cond.methodLink "PulseRemoteLaw" 119 ⟨"PulseRemote", "pressCount", "(I)I"⟩ ∈ GW := gw_of (List.mem_of_getElem? (i := 1022) (by decide +kernel)) rfl
theorem k_1052 : Cond.methodLink "PulseRemoteLaw" 123 ⟨"PulseRemote", "press", "(III)I"⟩ ∈ GW := gw_of (List.mem_of_getElem? (i := 1052) (by decide +kernel)) rfl
theorem k_1062 : Cond.methodLink "PulseRemoteLaw" 127 ⟨"PulseRemote", "strayCount", "(I)I"⟩ ∈ GW := gw_of (List.mem_of_getElem? (i := 1062) (by decide +kernel)) rfl
theorem k_1066 : Cond.methodLink "PulseRemoteLaw" 131 ⟨"PulseRemote", "neededTolerance", "(I)I"⟩ ∈ GW := gw_of (List.mem_of_getElem? (i := 1066) (by decide +kernel)) rfl
theorem k_1074 : Cond.methodLink "PulseRemoteLaw" 135 ⟨"PulseRemote", "explain", "(III)I"⟩ ∈ GW := gw_of (List.mem_of_getElem? (i := 1074) (by decide +kernel)) rfl
theorem k_1096 : Cond.methodLink "PulseRemoteLaw" 139 ⟨"PulseRemote", "ghosts", "(I)I"⟩ ∈ GW := gw_of (List.mem_of_getElem? (i := 1096) (by decide +kernel)) rfl
theorem k_1104 : Cond.methodLink "PulseRemoteLaw" 143 ⟨"PulseRemote", "undo", "()I"⟩ ∈ GW := gw_of (List.mem_of_getElem? (i := 1104) (by decide +kernel)) rfl
theorem k_1225 : Cond.methodLink "PulseRemoteLaw" 146 ⟨"PulseRemoteModel", "undo", "()I"⟩ ∈ GW := gw_of (List.mem_of_getElem? (i := 1225) (by decide +kernel)) rfl
theorem k_1229 : Cond.methodLink "PulseRemoteLaw" 17 ⟨"PulseRemoteModel", "addProtocol", "(IIII)I"⟩ ∈ GW := gw_of (List.mem_of_getElem? (i := 1229) (by decide +kernel)) rfl
theorem k_1251 : Cond.methodLink "PulseRemoteLaw" 22 ⟨"PulseRemoteModel", "setLengths", "(IIIIII)I"⟩ ∈ GW := gw_of (List.mem_of_getElem? (i := 1251) (by decide +kernel)) rfl
theorem k_1265 : Cond.methodLink "PulseRemoteLaw" 27 ⟨"PulseRemoteModel", "protocol", "(II)I"⟩ ∈ GW := gw_of (List.mem_of_getElem? (i := 1265) (by decide +kernel)) rfl
theorem k_1269 : Cond.methodLink "PulseRemoteLaw" 32 ⟨"PulseRemoteModel", "count", "(I)I"⟩ ∈ GW := gw_of (List.mem_of_getElem? (i := 1269) (by decide +kernel)) rfl
theorem k_1273 : Cond.methodLink "PulseRemoteLaw" 44 ⟨"PulseRemoteModel", "addButton", "(II)I"⟩ ∈ GW := gw_of (List.mem_of_getElem? (i := 1273) (by decide +kernel)) rfl
theorem k_1293 : Cond.methodLink "PulseRemoteLaw" 48 ⟨"PulseRemoteModel", "button", "(II)I"⟩ ∈ GW := gw_of (List.mem_of_getElem? (i := 1293) (by decide +kernel)) rfl
theorem k_1297 : Cond.methodLink "PulseRemoteLaw" 52 ⟨"PulseRemoteModel", "setGap", "(I)I"⟩ ∈ GW := gw_of (List.mem_of_getElem? (i := 1297) (by decide +kernel)) rfl
theorem k_1306 : Cond.methodLink "PulseRemoteLaw" 56 ⟨"PulseRemoteModel", "setHold", "(I)I"⟩ ∈ GW := gw_of (List.mem_of_getElem? (i := 1306) (by decide +kernel)) rfl
theorem k_1310 : Cond.methodLink "PulseRemoteLaw" 60 ⟨"PulseRemoteModel", "setTolerance", "(I)I"⟩ ∈ GW := gw_of (List.mem_of_getElem? (i := 1310) (by decide +kernel)) rfl
theorem k_1314 : Cond.methodLink "PulseRemoteLaw" 64 ⟨"PulseRemoteModel", "appendCharacter", "(I)I"⟩ ∈ GW := gw_of (List.mem_of_getElem? (i := 1314) (by decide +kernel)) rfl
theorem k_1318 : Cond.methodLink "PulseRemoteLaw" 69 ⟨"PulseRemoteModel", "clearText", "()I"⟩ ∈ GW := gw_of (List.mem_of_getElem? (i := 1318) (by decide +kernel)) rfl
theorem k_1322 : Cond.methodLink "PulseRemoteLaw" 73 ⟨"PulseRemoteModel", "load", "()I"⟩ ∈ GW := gw_of (List.mem_of_getElem? (i := 1322) (by decide +kernel)) rfl
theorem k_1363 : Cond.methodLink "PulseRemoteLaw" 77 ⟨"PulseRemoteModel", "append", "(II)I"⟩ ∈ GW := gw_of (List.mem_of_getElem? (i := 1363) (by decide +kernel)) rfl
theorem k_1373 : Cond.methodLink "PulseRemoteLaw" 81 ⟨"PulseRemoteModel", "send", "(IIII)I"⟩ ∈ GW := gw_of (List.mem_of_getElem? (i := 1373) (by decide +kernel)) rfl
theorem k_1397 : Cond.methodLink "PulseRemoteLaw" 86 ⟨"PulseRemoteModel", "sendShort", "(III)I"⟩ ∈ GW := gw_of (List.mem_of_getElem? (i := 1397) (by decide +kernel)) rfl
theorem k_1405 : Cond.methodLink "PulseRemoteLaw" 90 ⟨"PulseRemoteModel", "clear", "(I)I"⟩ ∈ GW := gw_of (List.mem_of_getElem? (i := 1405) (by decide +kernel)) rfl
theorem k_1409 : Cond.methodLink "PulseRemoteLaw" 94 ⟨"PulseRemoteModel", "overlay", "(III)I"⟩ ∈ GW := gw_of (List.mem_of_getElem? (i := 1409) (by decide +kernel)) rfl
theorem k_1421 : Cond.methodLink "PulseRemoteLaw" 98 ⟨"PulseRemoteModel", "distort", "(III)I"⟩ ∈ GW := gw_of (List.mem_of_getElem? (i := 1421) (by decide +kernel)) rfl
theorem k_1428 : Cond.methodLink "PulseRemoteLaw" 102 ⟨"PulseRemoteModel", "duration", "(II)I"⟩ ∈ GW := gw_of (List.mem_of_getElem? (i := 1428) (by decide +kernel)) rfl
theorem k_1432 : Cond.methodLink "PulseRemoteLaw" 106 ⟨"PulseRemoteModel", "length", "(I)I"⟩ ∈ GW := gw_of (List.mem_of_getElem? (i := 1432) (by decide +kernel)) rfl
theorem k_1436 : Cond.methodLink "PulseRemoteLaw" 110 ⟨"PulseRemoteModel", "frameCount", "(I)I"⟩ ∈ GW := gw_of (List.mem_of_getElem? (i := 1436) (by decide +kernel)) rfl
theorem k_1448 : Cond.methodLink "PulseRemoteLaw" 114 ⟨"PulseRemoteModel", "frame", "(III)I"⟩ ∈ GW := gw_of (List.mem_of_getElem? (i := 1448) (by decide +kernel)) rfl
theorem k_1496 : Cond.methodLink "PulseRemoteLaw" 118 ⟨"PulseRemoteModel", "deviation", "(II)I"⟩ ∈ GW := gw_of (List.mem_of_getElem? (i := 1496) (by decide +kernel)) rfl
theorem k_1501 : Cond.methodLink "PulseRemoteLaw" 122 ⟨"PulseRemoteModel", "pressCount", "(I)I"⟩ ∈ GW := gw_of (List.mem_of_getElem? (i := 1501) (by decide +kernel)) rfl
theorem k_1509 : Cond.methodLink "PulseRemoteLaw" 126 ⟨"PulseRemoteModel", "press", "(III)I"⟩ ∈ GW := gw_of (List.mem_of_getElem? (i := 1509) (by decide +kernel)) rfl
theorem k_1513 : Cond.methodLink "PulseRemoteLaw" 130 ⟨"PulseRemoteModel", "strayCount", "(I)I"⟩ ∈ GW := gw_of (List.mem_of_getElem? (i := 1513) (by decide +kernel)) rfl
theorem k_1517 : Cond.methodLink "PulseRemoteLaw" 134 ⟨"PulseRemoteModel", "neededTolerance", "(I)I"⟩ ∈ GW := gw_of (List.mem_of_getElem? (i := 1517) (by decide +kernel)) rfl
theorem k_1521 : Cond.methodLink "PulseRemoteLaw" 40 ⟨"PulseRemoteModel", "clusters", "(II)I"⟩ ∈ GW := gw_of (List.mem_of_getElem? (i := 1521) (by decide +kernel)) rfl
theorem k_1529 : Cond.methodLink "PulseRemoteLaw" 36 ⟨"PulseRemoteModel", "learn", "(I)I"⟩ ∈ GW := gw_of (List.mem_of_getElem? (i := 1529) (by decide +kernel)) rfl
theorem k_1537 : Cond.methodLink "PulseRemoteLaw" 138 ⟨"PulseRemoteModel", "explain", "(III)I"⟩ ∈ GW := gw_of (List.mem_of_getElem? (i := 1537) (by decide +kernel)) rfl
theorem k_1549 : Cond.methodLink "PulseRemoteLaw" 142 ⟨"PulseRemoteModel", "ghosts", "(I)I"⟩ ∈ GW := gw_of (List.mem_of_getElem? (i := 1549) (by decide +kernel)) rfl
set_option maxHeartbeats 4000000 in
set_option maxRecDepth 100000 in
theorem op_0 {X : BX} {D : va_G} {cy : Nat → ClassId} {b sa L : Nat} {sv : Nat → Int32} (hL : LW X D cy b sa L sv) {k : Nat} (hk : k + 7 ≤ L) {p : Nat → Nat} {z l : Nat → Int → Int} (hJ : RJ p z) : OpL X D cy b sa k 176 p z l := by
  obtain ⟨hB, hX, hsa, hb, hL⟩ := hL
  obtain ⟨v, p1, z1, l1, p', z', l', h1, h2, h4⟩ := JT_get (l := l) (j_addProtocol (sv (nI k + 1).toNatClampNeg) (sv (nI k + 2).toNatClampNeg) (sv (nI k + 3).toNatClampNeg) (sv (nI k + 4).toNatClampNeg)) hJ
  refine ⟨p', z', l', h4, fun r μ' K => ?_⟩
  refine r_aload_n hB 1 rfl (by decide +kernel : decode code 176 = .ok (.aload_n 1, 1)) rfl ?_
  refine r_aload_n hB 0 rfl (by decide +kernel : decode code 177 = .ok (.aload_n 0, 1)) rfl ?_
  refine r_iload_n hB 3 rfl (by decide +kernel : decode code 178 = .ok (.iload_n 3, 1)) rfl ?_
  refine r_iconst hB (v := 1) (by decide +kernel : decode code 179 = .ok (.iconst 1, 1)) (by decide +kernel) ?_
  refine r_iadd hB (by decide +kernel : decode code 180 = .ok (.iadd, 1)) ?_
  refine r_sld hB hX hsa hb (in_L 1 1 rfl (by decide) hk hL) (by decide +kernel : decode code 181 = .ok (.iaload, 1)) ?_
  refine r_aload_n hB 0 rfl (by decide +kernel : decode code 182 = .ok (.aload_n 0, 1)) rfl ?_
  refine r_iload_n hB 3 rfl (by decide +kernel : decode code 183 = .ok (.iload_n 3, 1)) rfl ?_
  refine r_iconst hB (v := 2) (by decide +kernel : decode code 184 = .ok (.iconst 2, 1)) (by decide +kernel) ?_
  refine r_iadd hB (by decide +kernel : decode code 185 = .ok (.iadd, 1)) ?_
  refine r_sld hB hX hsa hb (in_L 2 2 rfl (by decide) hk hL) (by decide +kernel : decode code 186 = .ok (.iaload, 1)) ?_
  refine r_aload_n hB 0 rfl (by decide +kernel : decode code 187 = .ok (.aload_n 0, 1)) rfl ?_
  refine r_iload_n hB 3 rfl (by decide +kernel : decode code 188 = .ok (.iload_n 3, 1)) rfl ?_
  refine r_iconst hB (v := 3) (by decide +kernel : decode code 189 = .ok (.iconst 3, 1)) (by decide +kernel) ?_
  refine r_iadd hB (by decide +kernel : decode code 190 = .ok (.iadd, 1)) ?_
  refine r_sld hB hX hsa hb (in_L 3 3 rfl (by decide) hk hL) (by decide +kernel : decode code 191 = .ok (.iaload, 1)) ?_
  refine r_aload_n hB 0 rfl (by decide +kernel : decode code 192 = .ok (.aload_n 0, 1)) rfl ?_
  refine r_iload_n hB 3 rfl (by decide +kernel : decode code 193 = .ok (.iload_n 3, 1)) rfl ?_
  refine r_iconst hB (v := 4) (by decide +kernel : decode code 194 = .ok (.iconst 4, 1)) (by decide +kernel) ?_
  refine r_iadd hB (by decide +kernel : decode code 195 = .ok (.iadd, 1)) ?_
  refine r_sld hB hX hsa hb (in_L 4 4 rfl (by decide) hk hL) (by decide +kernel : decode code 196 = .ok (.iaload, 1)) ?_
  refine r_cVi (R := (v, M p1 z1 l1)) (K := some) (F := f_X11_addProtocol 0 (sv (nI k + 1).toNatClampNeg) (sv (nI k + 2).toNatClampNeg) (sv (nI k + 3).toNatClampNeg) (sv (nI k + 4).toNatClampNeg) (M p z l)) hB [.int (sv (nI k + 1).toNatClampNeg), .int (sv (nI k + 2).toNatClampNeg), .int (sv (nI k + 3).toNatClampNeg), .int (sv (nI k + 4).toNatClampNeg)] [] cf11 (own := "PulseRemoteLaw") rfl cmX11_addProtocol imX11_addProtocol (Or.inl k_502) (by decide) rfl rfl rfl (Nat.le_of_ble_eq_true rfl) (by decide +kernel : decode code 197 = .ok (.invokevirtual 13, 3)) (fun z hz => m_X11_addProtocol _ _ _ _ hz) rfl (isO_X h1) (fun w hw => ?_)
  obtain rfl := Option.some.inj hw
  refine r_aload_n hB 2 rfl (by decide +kernel : decode code 200 = .ok (.aload_n 2, 1)) rfl ?_
  refine r_aload_n hB 0 rfl (by decide +kernel : decode code 201 = .ok (.aload_n 0, 1)) rfl ?_
  refine r_iload_n hB 3 rfl (by decide +kernel : decode code 202 = .ok (.iload_n 3, 1)) rfl ?_
  refine r_iconst hB (v := 1) (by decide +kernel : decode code 203 = .ok (.iconst 1, 1)) (by decide +kernel) ?_
  refine r_iadd hB (by decide +kernel : decode code 204 = .ok (.iadd, 1)) ?_
  refine r_sld hB hX hsa hb (in_L 1 1 rfl (by decide) hk hL) (by decide +kernel : decode code 205 = .ok (.iaload, 1)) ?_
  refine r_aload_n hB 0 rfl (by decide +kernel : decode code 206 = .ok (.aload_n 0, 1)) rfl ?_
  refine r_iload_n hB 3 rfl (by decide +kernel : decode code 207 = .ok (.iload_n 3, 1)) rfl ?_
  refine r_iconst hB (v := 2) (by decide +kernel : decode code 208 = .ok (.iconst 2, 1)) (by decide +kernel) ?_
  refine r_iadd hB (by decide +kernel : decode code 209 = .ok (.iadd, 1)) ?_
  refine r_sld hB hX hsa hb (in_L 2 2 rfl (by decide) hk hL) (by decide +kernel : decode code 210 = .ok (.iaload, 1)) ?_
  refine r_aload_n hB 0 rfl (by decide +kernel : decode code 211 = .ok (.aload_n 0, 1)) rfl ?_
  refine r_iload_n hB 3 rfl (by decide +kernel : decode code 212 = .ok (.iload_n 3, 1)) rfl ?_
  refine r_iconst hB (v := 3) (by decide +kernel : decode code 213 = .ok (.iconst 3, 1)) (by decide +kernel) ?_
  refine r_iadd hB (by decide +kernel : decode code 214 = .ok (.iadd, 1)) ?_
  refine r_sld hB hX hsa hb (in_L 3 3 rfl (by decide) hk hL) (by decide +kernel : decode code 215 = .ok (.iaload, 1)) ?_
  refine r_aload_n hB 0 rfl (by decide +kernel : decode code 216 = .ok (.aload_n 0, 1)) rfl ?_
  refine r_iload_n hB 3 rfl (by decide +kernel : decode code 217 = .ok (.iload_n 3, 1)) rfl ?_
  refine r_iconst hB (v := 4) (by decide +kernel : decode code 218 = .ok (.iconst 4, 1)) (by decide +kernel) ?_
  refine r_iadd hB (by decide +kernel : decode code 219 = .ok (.iadd, 1)) ?_
  refine r_sld hB hX hsa hb (in_L 4 4 rfl (by decide) hk hL) (by decide +kernel : decode code 220 = .ok (.iaload, 1)) ?_
  refine r_cVi (R := (v, M p' z' l')) (K := some) (F := f_X12_addProtocol 189 (sv (nI k + 1).toNatClampNeg) (sv (nI k + 2).toNatClampNeg) (sv (nI k + 3).toNatClampNeg) (sv (nI k + 4).toNatClampNeg) (M p1 z1 l1)) hB [.int (sv (nI k + 1).toNatClampNeg), .int (sv (nI k + 2).toNatClampNeg), .int (sv (nI k + 3).toNatClampNeg), .int (sv (nI k + 4).toNatClampNeg)] [.int v] cf12 (own := "PulseRemoteLaw") rfl cmX12_addProtocol imX12_addProtocol (Or.inl k_1229) (by decide) rfl rfl rfl (Nat.le_of_ble_eq_true rfl) (by decide +kernel : decode code 221 = .ok (.invokevirtual 17, 3)) (fun z hz => m_X12_addProtocol _ _ _ _ hz) rfl (isO_Q h2) (fun w hw => ?_)
  obtain rfl := Option.some.inj hw
  exact r_icmp_eq (A := some ()) (B := none) (R := ()) hB (tgt := 1184) (by decide +kernel : decode code 224 = .ok (.if_icmp .eq 960, 3)) (by decide) (if_pos rfl) (fun _ _ => K) (fun h _ => absurd rfl h)
set_option maxHeartbeats 4000000 in
set_option maxRecDepth 100000 in
theorem op_1 {X : BX} {D : va_G} {cy : Nat → ClassId} {b sa L : Nat} {sv : Nat → Int32} (hL : LW X D cy b sa L sv) {k : Nat} (hk : k + 7 ≤ L) {p : Nat → Nat} {z l : Nat → Int → Int} (hJ : RJ p z) : OpL X D cy b sa k 229 p z l := by
  obtain ⟨hB, hX, hsa, hb, hL⟩ := hL
  obtain ⟨v, p1, z1, l1, p', z', l', h1, h2, h4⟩ := JT_get (l := l) (j_setLengths (sv (nI k + 1).toNatClampNeg) (sv (nI k + 2).toNatClampNeg) (sv (nI k + 3).toNatClampNeg) (sv (nI k + 4).toNatClampNeg) (sv (nI k + 5).toNatClampNeg) (sv (nI k + 6).toNatClampNeg)) hJ
  refine ⟨p', z', l', h4, fun r μ' K => ?_⟩
  refine r_aload_n hB 1 rfl (by decide +kernel : decode code 229 = .ok (.aload_n 1, 1)) rfl ?_
  refine r_aload_n hB 0 rfl (by decide +kernel : decode code 230 = .ok (.aload_n 0, 1)) rfl ?_
  refine r_iload_n hB 3 rfl (by decide +kernel : decode code 231 = .ok (.iload_n 3, 1)) rfl ?_
  refine r_iconst hB (v := 1) (by decide +kernel : decode code 232 = .ok (.iconst 1, 1)) (by decide +kernel) ?_
  refine r_iadd hB (by decide +kernel : decode code 233 = .ok (.iadd, 1)) ?_
  refine r_sld hB hX hsa hb (in_L 1 1 rfl (by decide) hk hL) (by decide +kernel : decode code 234 = .ok (.iaload, 1)) ?_
  refine r_aload_n hB 0 rfl (by decide +kernel : decode code 235 = .ok (.aload_n 0, 1)) rfl ?_
  refine r_iload_n hB 3 rfl (by decide +kernel : decode code 236 = .ok (.iload_n 3, 1)) rfl ?_
  refine r_iconst hB (v := 2) (by decide +kernel : decode code 237 = .ok (.iconst 2, 1)) (by decide +kernel) ?_
  refine r_iadd hB (by decide +kernel : decode code 238 = .ok (.iadd, 1)) ?_
  refine r_sld hB hX hsa hb (in_L 2 2 rfl (by decide) hk hL) (by decide +kernel : decode code 239 = .ok (.iaload, 1)) ?_
  refine r_aload_n hB 0 rfl (by decide +kernel : decode code 240 = .ok (.aload_n 0, 1)) rfl ?_
  refine r_iload_n hB 3 rfl (by decide +kernel : decode code 241 = .ok (.iload_n 3, 1)) rfl ?_
  refine r_iconst hB (v := 3) (by decide +kernel : decode code 242 = .ok (.iconst 3, 1)) (by decide +kernel) ?_
  refine r_iadd hB (by decide +kernel : decode code 243 = .ok (.iadd, 1)) ?_
  refine r_sld hB hX hsa hb (in_L 3 3 rfl (by decide) hk hL) (by decide +kernel : decode code 244 = .ok (.iaload, 1)) ?_
  refine r_aload_n hB 0 rfl (by decide +kernel : decode code 245 = .ok (.aload_n 0, 1)) rfl ?_
  refine r_iload_n hB 3 rfl (by decide +kernel : decode code 246 = .ok (.iload_n 3, 1)) rfl ?_
  refine r_iconst hB (v := 4) (by decide +kernel : decode code 247 = .ok (.iconst 4, 1)) (by decide +kernel) ?_
  refine r_iadd hB (by decide +kernel : decode code 248 = .ok (.iadd, 1)) ?_
  refine r_sld hB hX hsa hb (in_L 4 4 rfl (by decide) hk hL) (by decide +kernel : decode code 249 = .ok (.iaload, 1)) ?_
  refine r_aload_n hB 0 rfl (by decide +kernel : decode code 250 = .ok (.aload_n 0, 1)) rfl ?_
  refine r_iload_n hB 3 rfl (by decide +kernel : decode code 251 = .ok (.iload_n 3, 1)) rfl ?_
  refine r_iconst hB (v := 5) (by decide +kernel : decode code 252 = .ok (.iconst 5, 1)) (by decide +kernel) ?_
  refine r_iadd hB (by decide +kernel : decode code 253 = .ok (.iadd, 1)) ?_
  refine r_sld hB hX hsa hb (in_L 5 5 rfl (by decide) hk hL) (by decide +kernel : decode code 254 = .ok (.iaload, 1)) ?_
  refine r_aload_n hB 0 rfl (by decide +kernel : decode code 255 = .ok (.aload_n 0, 1)) rfl ?_
  refine r_iload_n hB 3 rfl (by decide +kernel : decode code 256 = .ok (.iload_n 3, 1)) rfl ?_
  refine r_bipush hB (v := 6) (by decide +kernel : decode code 257 = .ok (.bipush 6, 2)) (by decide +kernel) ?_
  refine r_iadd hB (by decide +kernel : decode code 259 = .ok (.iadd, 1)) ?_
  refine r_sld hB hX hsa hb (in_L 6 6 rfl (by decide) hk hL) (by decide +kernel : decode code 260 = .ok (.iaload, 1)) ?_
  refine r_cVi (R := (v, M p1 z1 l1)) (K := some) (F := f_X11_setLengths 0 (sv (nI k + 1).toNatClampNeg) (sv (nI k + 2).toNatClampNeg) (sv (nI k + 3).toNatClampNeg) (sv (nI k + 4).toNatClampNeg) (sv (nI k + 5).toNatClampNeg) (sv (nI k + 6).toNatClampNeg) (M p z l)) hB [.int (sv (nI k + 1).toNatClampNeg), .int (sv (nI k + 2).toNatClampNeg), .int (sv (nI k + 3).toNatClampNeg), .int (sv (nI k + 4).toNatClampNeg), .int (sv (nI k + 5).toNatClampNeg), .int (sv (nI k + 6).toNatClampNeg)] [] cf11 (own := "PulseRemoteLaw") rfl cmX11_setLengths imX11_setLengths (Or.inl k_561) (by decide) rfl rfl rfl (Nat.le_of_ble_eq_true rfl) (by decide +kernel : decode code 261 = .ok (.invokevirtual 18, 3)) (fun z hz => m_X11_setLengths _ _ _ _ hz) rfl (isO_X h1) (fun w hw => ?_)
  obtain rfl := Option.some.inj hw
  refine r_aload_n hB 2 rfl (by decide +kernel : decode code 264 = .ok (.aload_n 2, 1)) rfl ?_
  refine r_aload_n hB 0 rfl (by decide +kernel : decode code 265 = .ok (.aload_n 0, 1)) rfl ?_
  refine r_iload_n hB 3 rfl (by decide +kernel : decode code 266 = .ok (.iload_n 3, 1)) rfl ?_
  refine r_iconst hB (v := 1) (by decide +kernel : decode code 267 = .ok (.iconst 1, 1)) (by decide +kernel) ?_
  refine r_iadd hB (by decide +kernel : decode code 268 = .ok (.iadd, 1)) ?_
  refine r_sld hB hX hsa hb (in_L 1 1 rfl (by decide) hk hL) (by decide +kernel : decode code 269 = .ok (.iaload, 1)) ?_
  refine r_aload_n hB 0 rfl (by decide +kernel : decode code 270 = .ok (.aload_n 0, 1)) rfl ?_
  refine r_iload_n hB 3 rfl (by decide +kernel : decode code 271 = .ok (.iload_n 3, 1)) rfl ?_
  refine r_iconst hB (v := 2) (by decide +kernel : decode code 272 = .ok (.iconst 2, 1)) (by decide +kernel) ?_
  refine r_iadd hB (by decide +kernel : decode code 273 = .ok (.iadd, 1)) ?_
  refine r_sld hB hX hsa hb (in_L 2 2 rfl (by decide) hk hL) (by decide +kernel : decode code 274 = .ok (.iaload, 1)) ?_
  refine r_aload_n hB 0 rfl (by decide +kernel : decode code 275 = .ok (.aload_n 0, 1)) rfl ?_
  refine r_iload_n hB 3 rfl (by decide +kernel : decode code 276 = .ok (.iload_n 3, 1)) rfl ?_
  refine r_iconst hB (v := 3) (by decide +kernel : decode code 277 = .ok (.iconst 3, 1)) (by decide +kernel) ?_
  refine r_iadd hB (by decide +kernel : decode code 278 = .ok (.iadd, 1)) ?_
  refine r_sld hB hX hsa hb (in_L 3 3 rfl (by decide) hk hL) (by decide +kernel : decode code 279 = .ok (.iaload, 1)) ?_
  refine r_aload_n hB 0 rfl (by decide +kernel : decode code 280 = .ok (.aload_n 0, 1)) rfl ?_
  refine r_iload_n hB 3 rfl (by decide +kernel : decode code 281 = .ok (.iload_n 3, 1)) rfl ?_
  refine r_iconst hB (v := 4) (by decide +kernel : decode code 282 = .ok (.iconst 4, 1)) (by decide +kernel) ?_
  refine r_iadd hB (by decide +kernel : decode code 283 = .ok (.iadd, 1)) ?_
  refine r_sld hB hX hsa hb (in_L 4 4 rfl (by decide) hk hL) (by decide +kernel : decode code 284 = .ok (.iaload, 1)) ?_
  refine r_aload_n hB 0 rfl (by decide +kernel : decode code 285 = .ok (.aload_n 0, 1)) rfl ?_
  refine r_iload_n hB 3 rfl (by decide +kernel : decode code 286 = .ok (.iload_n 3, 1)) rfl ?_
  refine r_iconst hB (v := 5) (by decide +kernel : decode code 287 = .ok (.iconst 5, 1)) (by decide +kernel) ?_
  refine r_iadd hB (by decide +kernel : decode code 288 = .ok (.iadd, 1)) ?_
  refine r_sld hB hX hsa hb (in_L 5 5 rfl (by decide) hk hL) (by decide +kernel : decode code 289 = .ok (.iaload, 1)) ?_
  refine r_aload_n hB 0 rfl (by decide +kernel : decode code 290 = .ok (.aload_n 0, 1)) rfl ?_
  refine r_iload_n hB 3 rfl (by decide +kernel : decode code 291 = .ok (.iload_n 3, 1)) rfl ?_
  refine r_bipush hB (v := 6) (by decide +kernel : decode code 292 = .ok (.bipush 6, 2)) (by decide +kernel) ?_
  refine r_iadd hB (by decide +kernel : decode code 294 = .ok (.iadd, 1)) ?_
  refine r_sld hB hX hsa hb (in_L 6 6 rfl (by decide) hk hL) (by decide +kernel : decode code 295 = .ok (.iaload, 1)) ?_
  refine r_cVi (R := (v, M p' z' l')) (K := some) (F := f_X12_setLengths 189 (sv (nI k + 1).toNatClampNeg) (sv (nI k + 2).toNatClampNeg) (sv (nI k + 3).toNatClampNeg) (sv (nI k + 4).toNatClampNeg) (sv (nI k + 5).toNatClampNeg) (sv (nI k + 6).toNatClampNeg) (M p1 z1 l1)) hB [.int (sv (nI k + 1).toNatClampNeg), .int (sv (nI k + 2).toNatClampNeg), .int (sv (nI k + 3).toNatClampNeg), .int (sv (nI k + 4).toNatClampNeg), .int (sv (nI k + 5).toNatClampNeg), .int (sv (nI k + 6).toNatClampNeg)] [.int v] cf12 (own := "PulseRemoteLaw") rfl cmX12_setLengths imX12_setLengths (Or.inl k_1251) (by decide) rfl rfl rfl (Nat.le_of_ble_eq_true rfl) (by decide +kernel : decode code 296 = .ok (.invokevirtual 22, 3)) (fun z hz => m_X12_setLengths _ _ _ _ hz) rfl (isO_Q h2) (fun w hw => ?_)
  obtain rfl := Option.some.inj hw
  exact r_icmp_eq (A := some ()) (B := none) (R := ()) hB (tgt := 1184) (by decide +kernel : decode code 299 = .ok (.if_icmp .eq 885, 3)) (by decide) (if_pos rfl) (fun _ _ => K) (fun h _ => absurd rfl h)
set_option maxHeartbeats 4000000 in
set_option maxRecDepth 100000 in
theorem op_2 {X : BX} {D : va_G} {cy : Nat → ClassId} {b sa L : Nat} {sv : Nat → Int32} (hL : LW X D cy b sa L sv) {k : Nat} (hk : k + 7 ≤ L) {p : Nat → Nat} {z l : Nat → Int → Int} (hJ : RJ p z) : OpL X D cy b sa k 304 p z l := by
  obtain ⟨hB, hX, hsa, hb, hL⟩ := hL
  obtain ⟨v, p1, z1, l1, p', z', l', h1, h2, h4⟩ := JT_get (l := l) (j_protocol (sv (nI k + 1).toNatClampNeg) (sv (nI k + 2).toNatClampNeg)) hJ
  refine ⟨p', z', l', h4, fun r μ' K => ?_⟩
  refine r_aload_n hB 1 rfl (by decide +kernel : decode code 304 = .ok (.aload_n 1, 1)) rfl ?_
  refine r_aload_n hB 0 rfl (by decide +kernel : decode code 305 = .ok (.aload_n 0, 1)) rfl ?_
  refine r_iload_n hB 3 rfl (by decide +kernel : decode code 306 = .ok (.iload_n 3, 1)) rfl ?_
  refine r_iconst hB (v := 1) (by decide +kernel : decode code 307 = .ok (.iconst 1, 1)) (by decide +kernel) ?_
  refine r_iadd hB (by decide +kernel : decode code 308 = .ok (.iadd, 1)) ?_
  refine r_sld hB hX hsa hb (in_L 1 1 rfl (by decide) hk hL) (by decide +kernel : decode code 309 = .ok (.iaload, 1)) ?_
  refine r_aload_n hB 0 rfl (by decide +kernel : decode code 310 = .ok (.aload_n 0, 1)) rfl ?_
  refine r_iload_n hB 3 rfl (by decide +kernel : decode code 311 = .ok (.iload_n 3, 1)) rfl ?_
  refine r_iconst hB (v := 2) (by decide +kernel : decode code 312 = .ok (.iconst 2, 1)) (by decide +kernel) ?_
  refine r_iadd hB (by decide +kernel : decode code 313 = .ok (.iadd, 1)) ?_
  refine r_sld hB hX hsa hb (in_L 2 2 rfl (by decide) hk hL) (by decide +kernel : decode code 314 = .ok (.iaload, 1)) ?_
  refine r_cVi (R := (v, M p1 z1 l1)) (K := some) (F := f_X11_protocol 0 (sv (nI k + 1).toNatClampNeg) (sv (nI k + 2).toNatClampNeg) (M p z l)) hB [.int (sv (nI k + 1).toNatClampNeg), .int (sv (nI k + 2).toNatClampNeg)] [] cf11 (own := "PulseRemoteLaw") rfl cmX11_protocol imX11_protocol (Or.inl k_577) (by decide) rfl rfl rfl (Nat.le_of_ble_eq_true rfl) (by decide +kernel : decode code 315 = .ok (.invokevirtual 23, 3)) (fun z hz => m_X11_protocol _ _ _ _ hz) rfl (isO_X h1) (fun w hw => ?_)
  obtain rfl := Option.some.inj hw
  refine r_aload_n hB 2 rfl (by decide +kernel : decode code 318 = .ok (.aload_n 2, 1)) rfl ?_
  refine r_aload_n hB 0 rfl (by decide +kernel : decode code 319 = .ok (.aload_n 0, 1)) rfl ?_
  refine r_iload_n hB 3 rfl (by decide +kernel : decode code 320 = .ok (.iload_n 3, 1)) rfl ?_
  refine r_iconst hB (v := 1) (by decide +kernel : decode code 321 = .ok (.iconst 1, 1)) (by decide +kernel) ?_
  refine r_iadd hB (by decide +kernel : decode code 322 = .ok (.iadd, 1)) ?_
  refine r_sld hB hX hsa hb (in_L 1 1 rfl (by decide) hk hL) (by decide +kernel : decode code 323 = .ok (.iaload, 1)) ?_
  refine r_aload_n hB 0 rfl (by decide +kernel : decode code 324 = .ok (.aload_n 0, 1)) rfl ?_
  refine r_iload_n hB 3 rfl (by decide +kernel : decode code 325 = .ok (.iload_n 3, 1)) rfl ?_
  refine r_iconst hB (v := 2) (by decide +kernel : decode code 326 = .ok (.iconst 2, 1)) (by decide +kernel) ?_
  refine r_iadd hB (by decide +kernel : decode code 327 = .ok (.iadd, 1)) ?_
  refine r_sld hB hX hsa hb (in_L 2 2 rfl (by decide) hk hL) (by decide +kernel : decode code 328 = .ok (.iaload, 1)) ?_
  refine r_cVi (R := (v, M p' z' l')) (K := some) (F := f_X12_protocol 189 (sv (nI k + 1).toNatClampNeg) (sv (nI k + 2).toNatClampNeg) (M p1 z1 l1)) hB [.int (sv (nI k + 1).toNatClampNeg), .int (sv (nI k + 2).toNatClampNeg)] [.int v] cf12 (own := "PulseRemoteLaw") rfl cmX12_protocol imX12_protocol (Or.inl k_1265) (by decide) rfl rfl rfl (Nat.le_of_ble_eq_true rfl) (by decide +kernel : decode code 329 = .ok (.invokevirtual 27, 3)) (fun z hz => m_X12_protocol _ _ _ _ hz) rfl (isO_Q h2) (fun w hw => ?_)
  obtain rfl := Option.some.inj hw
  exact r_icmp_eq (A := some ()) (B := none) (R := ()) hB (tgt := 1184) (by decide +kernel : decode code 332 = .ok (.if_icmp .eq 852, 3)) (by decide) (if_pos rfl) (fun _ _ => K) (fun h _ => absurd rfl h)
set_option maxHeartbeats 4000000 in
set_option maxRecDepth 100000 in
theorem op_3 {X : BX} {D : va_G} {cy : Nat → ClassId} {b sa L : Nat} {sv : Nat → Int32} (hL : LW X D cy b sa L sv) {k : Nat} (hk : k + 7 ≤ L) {p : Nat → Nat} {z l : Nat → Int → Int} (hJ : RJ p z) : OpL X D cy b sa k 337 p z l := by
  obtain ⟨hB, hX, hsa, hb, hL⟩ := hL
  obtain ⟨v, p1, z1, l1, p', z', l', h1, h2, h4⟩ := JT_get (l := l) (j_count (sv (nI k + 1).toNatClampNeg)) hJ
  refine ⟨p', z', l', h4, fun r μ' K => ?_⟩
  refine r_aload_n hB 1 rfl (by decide +kernel : decode code 337 = .ok (.aload_n 1, 1)) rfl ?_
  refine r_aload_n hB 0 rfl (by decide +kernel : decode code 338 = .ok (.aload_n 0, 1)) rfl ?_
  refine r_iload_n hB 3 rfl (by decide +kernel : decode code 339 = .ok (.iload_n 3, 1)) rfl ?_
  refine r_iconst hB (v := 1) (by decide +kernel : decode code 340 = .ok (.iconst 1, 1)) (by decide +kernel) ?_
  refine r_iadd hB (by decide +kernel : decode code 341 = .ok (.iadd, 1)) ?_
  refine r_sld hB hX hsa hb (in_L 1 1 rfl (by decide) hk hL) (by decide +kernel : decode code 342 = .ok (.iaload, 1)) ?_
  refine r_cVi (R := (v, M p1 z1 l1)) (K := some) (F := f_X11_count 0 (sv (nI k + 1).toNatClampNeg) (M p z l)) hB [.int (sv (nI k + 1).toNatClampNeg)] [] cf11 (own := "PulseRemoteLaw") rfl cmX11_count imX11_count (Or.inl k_581) (by decide) rfl rfl rfl (Nat.le_of_ble_eq_true rfl) (by decide +kernel : decode code 343 = .ok (.invokevirtual 28, 3)) (fun z hz => m_X11_count _ _ _ _ hz) rfl (isO_X h1) (fun w hw => ?_)
  obtain rfl := Option.some.inj hw
  refine r_aload_n hB 2 rfl (by decide +kernel : decode code 346 = .ok (.aload_n 2, 1)) rfl ?_
  refine r_aload_n hB 0 rfl (by decide +kernel : decode code 347 = .ok (.aload_n 0, 1)) rfl ?_
  refine r_iload_n hB 3 rfl (by decide +kernel : decode code 348 = .ok (.iload_n 3, 1)) rfl ?_
  refine r_iconst hB (v := 1) (by decide +kernel : decode code 349 = .ok (.iconst 1, 1)) (by decide +kernel) ?_
  refine r_iadd hB (by decide +kernel : decode code 350 = .ok (.iadd, 1)) ?_
  refine r_sld hB hX hsa hb (in_L 1 1 rfl (by decide) hk hL) (by decide +kernel : decode code 351 = .ok (.iaload, 1)) ?_
  refine r_cVi (R := (v, M p' z' l')) (K := some) (F := f_X12_count 189 (sv (nI k + 1).toNatClampNeg) (M p1 z1 l1)) hB [.int (sv (nI k + 1).toNatClampNeg)] [.int v] cf12 (own := "PulseRemoteLaw") rfl cmX12_count imX12_count (Or.inl k_1269) (by decide) rfl rfl rfl (Nat.le_of_ble_eq_true rfl) (by decide +kernel : decode code 352 = .ok (.invokevirtual 32, 3)) (fun z hz => m_X12_count _ _ _ _ hz) rfl (isO_Q h2) (fun w hw => ?_)
  obtain rfl := Option.some.inj hw
  exact r_icmp_eq (A := some ()) (B := none) (R := ()) hB (tgt := 1184) (by decide +kernel : decode code 355 = .ok (.if_icmp .eq 829, 3)) (by decide) (if_pos rfl) (fun _ _ => K) (fun h _ => absurd rfl h)
set_option maxHeartbeats 4000000 in
set_option maxRecDepth 100000 in
theorem op_4 {X : BX} {D : va_G} {cy : Nat → ClassId} {b sa L : Nat} {sv : Nat → Int32} (hL : LW X D cy b sa L sv) {k : Nat} (hk : k + 7 ≤ L) {p : Nat → Nat} {z l : Nat → Int → Int} (hJ : RJ p z) : OpL X D cy b sa k 360 p z l := by
  obtain ⟨hB, hX, hsa, hb, hL⟩ := hL
  obtain ⟨v, p1, z1, l1, p', z', l', h1, h2, h4⟩ := JT_get (l := l) (j_learn (sv (nI k + 1).toNatClampNeg)) hJ
  refine ⟨p', z', l', h4, fun r μ' K => ?_⟩
  refine r_aload_n hB 1 rfl (by decide +kernel : decode code 360 = .ok (.aload_n 1, 1)) rfl ?_
  refine r_aload_n hB 0 rfl (by decide +kernel : decode code 361 = .ok (.aload_n 0, 1)) rfl ?_
  refine r_iload_n hB 3 rfl (by decide +kernel : decode code 362 = .ok (.iload_n 3, 1)) rfl ?_
  refine r_iconst hB (v := 1) (by decide +kernel : decode code 363 = .ok (.iconst 1, 1)) (by decide +kernel) ?_
  refine r_iadd hB (by decide +kernel : decode code 364 = .ok (.iadd, 1)) ?_
  refine r_sld hB hX hsa hb (in_L 1 1 rfl (by decide) hk hL) (by decide +kernel : decode code 365 = .ok (.iaload, 1)) ?_
  refine r_cVi (R := (v, M p1 z1 l1)) (K := some) (F := f_X11_learn 0 (sv (nI k + 1).toNatClampNeg) (M p z l)) hB [.int (sv (nI k + 1).toNatClampNeg)] [] cf11 (own := "PulseRemoteLaw") rfl cmX11_learn imX11_learn (Or.inl k_585) (by decide) rfl rfl rfl (Nat.le_of_ble_eq_true rfl) (by decide +kernel : decode code 366 = .ok (.invokevirtual 33, 3)) (fun z hz => m_X11_learn _ _ _ _ hz) rfl (isO_X h1) (fun w hw => ?_)
  obtain rfl := Option.some.inj hw
  refine r_aload_n hB 2 rfl (by decide +kernel : decode code 369 = .ok (.aload_n 2, 1)) rfl ?_
  refine r_aload_n hB 0 rfl (by decide +kernel : decode code 370 = .ok (.aload_n 0, 1)) rfl ?_
  refine r_iload_n hB 3 rfl (by decide +kernel : decode code 371 = .ok (.iload_n 3, 1)) rfl ?_
  refine r_iconst hB (v := 1) (by decide +kernel : decode code 372 = .ok (.iconst 1, 1)) (by decide +kernel) ?_
  refine r_iadd hB (by decide +kernel : decode code 373 = .ok (.iadd, 1)) ?_
  refine r_sld hB hX hsa hb (in_L 1 1 rfl (by decide) hk hL) (by decide +kernel : decode code 374 = .ok (.iaload, 1)) ?_
  refine r_cVi (R := (v, M p' z' l')) (K := some) (F := f_X12_learn 189 (sv (nI k + 1).toNatClampNeg) (M p1 z1 l1)) hB [.int (sv (nI k + 1).toNatClampNeg)] [.int v] cf12 (own := "PulseRemoteLaw") rfl cmX12_learn imX12_learn (Or.inl k_1529) (by decide) rfl rfl rfl (Nat.le_of_ble_eq_true rfl) (by decide +kernel : decode code 375 = .ok (.invokevirtual 36, 3)) (fun z hz => m_X12_learn _ _ _ _ hz) rfl (isO_Q h2) (fun w hw => ?_)
  obtain rfl := Option.some.inj hw
  exact r_icmp_eq (A := some ()) (B := none) (R := ()) hB (tgt := 1184) (by decide +kernel : decode code 378 = .ok (.if_icmp .eq 806, 3)) (by decide) (if_pos rfl) (fun _ _ => K) (fun h _ => absurd rfl h)
set_option maxHeartbeats 4000000 in
set_option maxRecDepth 100000 in
theorem op_5 {X : BX} {D : va_G} {cy : Nat → ClassId} {b sa L : Nat} {sv : Nat → Int32} (hL : LW X D cy b sa L sv) {k : Nat} (hk : k + 7 ≤ L) {p : Nat → Nat} {z l : Nat → Int → Int} (hJ : RJ p z) : OpL X D cy b sa k 383 p z l := by
  obtain ⟨hB, hX, hsa, hb, hL⟩ := hL
  obtain ⟨v, p1, z1, l1, p', z', l', h1, h2, h4⟩ := JT_get (l := l) (j_clusters (sv (nI k + 1).toNatClampNeg) (sv (nI k + 2).toNatClampNeg)) hJ
  refine ⟨p', z', l', h4, fun r μ' K => ?_⟩
  refine r_aload_n hB 1 rfl (by decide +kernel : decode code 383 = .ok (.aload_n 1, 1)) rfl ?_
  refine r_aload_n hB 0 rfl (by decide +kernel : decode code 384 = .ok (.aload_n 0, 1)) rfl ?_
  refine r_iload_n hB 3 rfl (by decide +kernel : decode code 385 = .ok (.iload_n 3, 1)) rfl ?_
  refine r_iconst hB (v := 1) (by decide +kernel : decode code 386 = .ok (.iconst 1, 1)) (by decide +kernel) ?_
  refine r_iadd hB (by decide +kernel : decode code 387 = .ok (.iadd, 1)) ?_
  refine r_sld hB hX hsa hb (in_L 1 1 rfl (by decide) hk hL) (by decide +kernel : decode code 388 = .ok (.iaload, 1)) ?_
  refine r_aload_n hB 0 rfl (by decide +kernel : decode code 389 = .ok (.aload_n 0, 1)) rfl ?_
  refine r_iload_n hB 3 rfl (by decide +kernel : decode code 390 = .ok (.iload_n 3, 1)) rfl ?_
  refine r_iconst hB (v := 2) (by decide +kernel : decode code 391 = .ok (.iconst 2, 1)) (by decide +kernel) ?_
  refine r_iadd hB (by decide +kernel : decode code 392 = .ok (.iadd, 1)) ?_
  refine r_sld hB hX hsa hb (in_L 2 2 rfl (by decide) hk hL) (by decide +kernel : decode code 393 = .ok (.iaload, 1)) ?_
  refine r_cVi (R := (v, M p1 z1 l1)) (K := some) (F := f_X11_clusters 0 (sv (nI k + 1).toNatClampNeg) (sv (nI k + 2).toNatClampNeg) (M p z l)) hB [.int (sv (nI k + 1).toNatClampNeg), .int (sv (nI k + 2).toNatClampNeg)] [] cf11 (own := "PulseRemoteLaw") rfl cmX11_clusters imX11_clusters (Or.inl k_665) (by decide) rfl rfl rfl (Nat.le_of_ble_eq_true rfl) (by decide +kernel : decode code 394 = .ok (.invokevirtual 37, 3)) (fun z hz => m_X11_clusters _ _ _ _ hz) rfl (isO_X h1) (fun w hw => ?_)
  obtain rfl := Option.some.inj hw
  refine r_aload_n hB 2 rfl (by decide +kernel : decode code 397 = .ok (.aload_n 2, 1)) rfl ?_
  refine r_aload_n hB 0 rfl (by decide +kernel : decode code 398 = .ok (.aload_n 0, 1)) rfl ?_
  refine r_iload_n hB 3 rfl (by decide +kernel : decode code 399 = .ok (.iload_n 3, 1)) rfl ?_
  refine r_iconst hB (v := 1) (by decide +kernel : decode code 400 = .ok (.iconst 1, 1)) (by decide +kernel) ?_
  refine r_iadd hB (by decide +kernel : decode code 401 = .ok (.iadd, 1)) ?_
  refine r_sld hB hX hsa hb (in_L 1 1 rfl (by decide) hk hL) (by decide +kernel : decode code 402 = .ok (.iaload, 1)) ?_
  refine r_aload_n hB 0 rfl (by decide +kernel : decode code 403 = .ok (.aload_n 0, 1)) rfl ?_
  refine r_iload_n hB 3 rfl (by decide +kernel : decode code 404 = .ok (.iload_n 3, 1)) rfl ?_
  refine r_iconst hB (v := 2) (by decide +kernel : decode code 405 = .ok (.iconst 2, 1)) (by decide +kernel) ?_
  refine r_iadd hB (by decide +kernel : decode code 406 = .ok (.iadd, 1)) ?_
  refine r_sld hB hX hsa hb (in_L 2 2 rfl (by decide) hk hL) (by decide +kernel : decode code 407 = .ok (.iaload, 1)) ?_
  refine r_cVi (R := (v, M p' z' l')) (K := some) (F := f_X12_clusters 189 (sv (nI k + 1).toNatClampNeg) (sv (nI k + 2).toNatClampNeg) (M p1 z1 l1)) hB [.int (sv (nI k + 1).toNatClampNeg), .int (sv (nI k + 2).toNatClampNeg)] [.int v] cf12 (own := "PulseRemoteLaw") rfl cmX12_clusters imX12_clusters (Or.inl k_1521) (by decide) rfl rfl rfl (Nat.le_of_ble_eq_true rfl) (by decide +kernel : decode code 408 = .ok (.invokevirtual 40, 3)) (fun z hz => m_X12_clusters _ _ _ _ hz) rfl (isO_Q h2) (fun w hw => ?_)
  obtain rfl := Option.some.inj hw
  exact r_icmp_eq (A := some ()) (B := none) (R := ()) hB (tgt := 1184) (by decide +kernel : decode code 411 = .ok (.if_icmp .eq 773, 3)) (by decide) (if_pos rfl) (fun _ _ => K) (fun h _ => absurd rfl h)
set_option maxHeartbeats 4000000 in
set_option maxRecDepth 100000 in
theorem op_6 {X : BX} {D : va_G} {cy : Nat → ClassId} {b sa L : Nat} {sv : Nat → Int32} (hL : LW X D cy b sa L sv) {k : Nat} (hk : k + 7 ≤ L) {p : Nat → Nat} {z l : Nat → Int → Int} (hJ : RJ p z) : OpL X D cy b sa k 416 p z l := by
  obtain ⟨hB, hX, hsa, hb, hL⟩ := hL
  obtain ⟨v, p1, z1, l1, p', z', l', h1, h2, h4⟩ := JT_get (l := l) (j_addButton (sv (nI k + 1).toNatClampNeg) (sv (nI k + 2).toNatClampNeg)) hJ
  refine ⟨p', z', l', h4, fun r μ' K => ?_⟩
  refine r_aload_n hB 1 rfl (by decide +kernel : decode code 416 = .ok (.aload_n 1, 1)) rfl ?_
  refine r_aload_n hB 0 rfl (by decide +kernel : decode code 417 = .ok (.aload_n 0, 1)) rfl ?_
  refine r_iload_n hB 3 rfl (by decide +kernel : decode code 418 = .ok (.iload_n 3, 1)) rfl ?_
  refine r_iconst hB (v := 1) (by decide +kernel : decode code 419 = .ok (.iconst 1, 1)) (by decide +kernel) ?_
  refine r_iadd hB (by decide +kernel : decode code 420 = .ok (.iadd, 1)) ?_
  refine r_sld hB hX hsa hb (in_L 1 1 rfl (by decide) hk hL) (by decide +kernel : decode code 421 = .ok (.iaload, 1)) ?_
  refine r_aload_n hB 0 rfl (by decide +kernel : decode code 422 = .ok (.aload_n 0, 1)) rfl ?_
  refine r_iload_n hB 3 rfl (by decide +kernel : decode code 423 = .ok (.iload_n 3, 1)) rfl ?_
  refine r_iconst hB (v := 2) (by decide +kernel : decode code 424 = .ok (.iconst 2, 1)) (by decide +kernel) ?_
  refine r_iadd hB (by decide +kernel : decode code 425 = .ok (.iadd, 1)) ?_
  refine r_sld hB hX hsa hb (in_L 2 2 rfl (by decide) hk hL) (by decide +kernel : decode code 426 = .ok (.iaload, 1)) ?_
  refine r_cVi (R := (v, M p1 z1 l1)) (K := some) (F := f_X11_addButton 0 (sv (nI k + 1).toNatClampNeg) (sv (nI k + 2).toNatClampNeg) (M p z l)) hB [.int (sv (nI k + 1).toNatClampNeg), .int (sv (nI k + 2).toNatClampNeg)] [] cf11 (own := "PulseRemoteLaw") rfl cmX11_addButton imX11_addButton (Or.inl k_669) (by decide) rfl rfl rfl (Nat.le_of_ble_eq_true rfl) (by decide +kernel : decode code 427 = .ok (.invokevirtual 41, 3)) (fun z hz => m_X11_addButton _ _ _ _ hz) rfl (isO_X h1) (fun w hw => ?_)
  obtain rfl := Option.some.inj hw
  refine r_aload_n hB 2 rfl (by decide +kernel : decode code 430 = .ok (.aload_n 2, 1)) rfl ?_
  refine r_aload_n hB 0 rfl (by decide +kernel : decode code 431 = .ok (.aload_n 0, 1)) rfl ?_
  refine r_iload_n hB 3 rfl (by decide +kernel : decode code 432 = .ok (.iload_n 3, 1)) rfl ?_
  refine r_iconst hB (v := 1) (by decide +kernel : decode code 433 = .ok (.iconst 1, 1)) (by decide +kernel) ?_
  refine r_iadd hB (by decide +kernel : decode code 434 = .ok (.iadd, 1)) ?_
  refine r_sld hB hX hsa hb (in_L 1 1 rfl (by decide) hk hL) (by decide +kernel : decode code 435 = .ok (.iaload, 1)) ?_
  refine r_aload_n hB 0 rfl (by decide +kernel : decode code 436 = .ok (.aload_n 0, 1)) rfl ?_
  refine r_iload_n hB 3 rfl (by decide +kernel : decode code 437 = .ok (.iload_n 3, 1)) rfl ?_
  refine r_iconst hB (v := 2) (by decide +kernel : decode code 438 = .ok (.iconst 2, 1)) (by decide +kernel) ?_
  refine r_iadd hB (by decide +kernel : decode code 439 = .ok (.iadd, 1)) ?_
  refine r_sld hB hX hsa hb (in_L 2 2 rfl (by decide) hk hL) (by decide +kernel : decode code 440 = .ok (.iaload, 1)) ?_
  refine r_cVi (R := (v, M p' z' l')) (K := some) (F := f_X12_addButton 189 (sv (nI k + 1).toNatClampNeg) (sv (nI k + 2).toNatClampNeg) (M p1 z1 l1)) hB [.int (sv (nI k + 1).toNatClampNeg), .int (sv (nI k + 2).toNatClampNeg)] [.int v] cf12 (own := "PulseRemoteLaw") rfl cmX12_addButton imX12_addButton (Or.inl k_1273) (by decide) rfl rfl rfl (Nat.le_of_ble_eq_true rfl) (by decide +kernel : decode code 441 = .ok (.invokevirtual 44, 3)) (fun z hz => m_X12_addButton _ _ _ _ hz) rfl (isO_Q h2) (fun w hw => ?_)
  obtain rfl := Option.some.inj hw
  exact r_icmp_eq (A := some ()) (B := none) (R := ()) hB (tgt := 1184) (by decide +kernel : decode code 444 = .ok (.if_icmp .eq 740, 3)) (by decide) (if_pos rfl) (fun _ _ => K) (fun h _ => absurd rfl h)
set_option maxHeartbeats 4000000 in
set_option maxRecDepth 100000 in
theorem op_7 {X : BX} {D : va_G} {cy : Nat → ClassId} {b sa L : Nat} {sv : Nat → Int32} (hL : LW X D cy b sa L sv) {k : Nat} (hk : k + 7 ≤ L) {p : Nat → Nat} {z l : Nat → Int → Int} (hJ : RJ p z) : OpL X D cy b sa k 449 p z l := by
  obtain ⟨hB, hX, hsa, hb, hL⟩ := hL
  obtain ⟨v, p1, z1, l1, p', z', l', h1, h2, h4⟩ := JT_get (l := l) (j_button (sv (nI k + 1).toNatClampNeg) (sv (nI k + 2).toNatClampNeg)) hJ
  refine ⟨p', z', l', h4, fun r μ' K => ?_⟩
  refine r_aload_n hB 1 rfl (by decide +kernel : decode code 449 = .ok (.aload_n 1, 1)) rfl ?_
  refine r_aload_n hB 0 rfl (by decide +kernel : decode code 450 = .ok (.aload_n 0, 1)) rfl ?_
  refine r_iload_n hB 3 rfl (by decide +kernel : decode code 451 = .ok (.iload_n 3, 1)) rfl ?_
  refine r_iconst hB (v := 1) (by decide +kernel : decode code 452 = .ok (.iconst 1, 1)) (by decide +kernel) ?_
  refine r_iadd hB (by decide +kernel : decode code 453 = .ok (.iadd, 1)) ?_
  refine r_sld hB hX hsa hb (in_L 1 1 rfl (by decide) hk hL) (by decide +kernel : decode code 454 = .ok (.iaload, 1)) ?_
  refine r_aload_n hB 0 rfl (by decide +kernel : decode code 455 = .ok (.aload_n 0, 1)) rfl ?_
  refine r_iload_n hB 3 rfl (by decide +kernel : decode code 456 = .ok (.iload_n 3, 1)) rfl ?_
  refine r_iconst hB (v := 2) (by decide +kernel : decode code 457 = .ok (.iconst 2, 1)) (by decide +kernel) ?_
  refine r_iadd hB (by decide +kernel : decode code 458 = .ok (.iadd, 1)) ?_
  refine r_sld hB hX hsa hb (in_L 2 2 rfl (by decide) hk hL) (by decide +kernel : decode code 459 = .ok (.iaload, 1)) ?_
  refine r_cVi (R := (v, M p1 z1 l1)) (K := some) (F := f_X11_button 0 (sv (nI k + 1).toNatClampNeg) (sv (nI k + 2).toNatClampNeg) (M p z l)) hB [.int (sv (nI k + 1).toNatClampNeg), .int (sv (nI k + 2).toNatClampNeg)] [] cf11 (own := "PulseRemoteLaw") rfl cmX11_button imX11_button (Or.inl k_709) (by decide) rfl rfl rfl (Nat.le_of_ble_eq_true rfl) (by decide +kernel : decode code 460 = .ok (.invokevirtual 45, 3)) (fun z hz => m_X11_button _ _ _ _ hz) rfl (isO_X h1) (fun w hw => ?_)
  obtain rfl := Option.some.inj hw
  refine r_aload_n hB 2 rfl (by decide +kernel : decode code 463 = .ok (.aload_n 2, 1)) rfl ?_
  refine r_aload_n hB 0 rfl (by decide +kernel : decode code 464 = .ok (.aload_n 0, 1)) rfl ?_
  refine r_iload_n hB 3 rfl (by decide +kernel : decode code 465 = .ok (.iload_n 3, 1)) rfl ?_
  refine r_iconst hB (v := 1) (by decide +kernel : decode code 466 = .ok (.iconst 1, 1)) (by decide +kernel) ?_
  refine r_iadd hB (by decide +kernel : decode code 467 = .ok (.iadd, 1)) ?_
  refine r_sld hB hX hsa hb (in_L 1 1 rfl (by decide) hk hL) (by decide +kernel : decode code 468 = .ok (.iaload, 1)) ?_
  refine r_aload_n hB 0 rfl (by decide +kernel : decode code 469 = .ok (.aload_n 0, 1)) rfl ?_
  refine r_iload_n hB 3 rfl (by decide +kernel : decode code 470 = .ok (.iload_n 3, 1)) rfl ?_
  refine r_iconst hB (v := 2) (by decide +kernel : decode code 471 = .ok (.iconst 2, 1)) (by decide +kernel) ?_
  refine r_iadd hB (by decide +kernel : decode code 472 = .ok (.iadd, 1)) ?_
  refine r_sld hB hX hsa hb (in_L 2 2 rfl (by decide) hk hL) (by decide +kernel : decode code 473 = .ok (.iaload, 1)) ?_
  refine r_cVi (R := (v, M p' z' l')) (K := some) (F := f_X12_button 189 (sv (nI k + 1).toNatClampNeg) (sv (nI k + 2).toNatClampNeg) (M p1 z1 l1)) hB [.int (sv (nI k + 1).toNatClampNeg), .int (sv (nI k + 2).toNatClampNeg)] [.int v] cf12 (own := "PulseRemoteLaw") rfl cmX12_button imX12_button (Or.inl k_1293) (by decide) rfl rfl rfl (Nat.le_of_ble_eq_true rfl) (by decide +kernel : decode code 474 = .ok (.invokevirtual 48, 3)) (fun z hz => m_X12_button _ _ _ _ hz) rfl (isO_Q h2) (fun w hw => ?_)
  obtain rfl := Option.some.inj hw
  exact r_icmp_eq (A := some ()) (B := none) (R := ()) hB (tgt := 1184) (by decide +kernel : decode code 477 = .ok (.if_icmp .eq 707, 3)) (by decide) (if_pos rfl) (fun _ _ => K) (fun h _ => absurd rfl h)
set_option maxHeartbeats 4000000 in
set_option maxRecDepth 100000 in
theorem op_8 {X : BX} {D : va_G} {cy : Nat → ClassId} {b sa L : Nat} {sv : Nat → Int32} (hL : LW X D cy b sa L sv) {k : Nat} (hk : k + 7 ≤ L) {p : Nat → Nat} {z l : Nat → Int → Int} (hJ : RJ p z) : OpL X D cy b sa k 482 p z l := by
  obtain ⟨hB, hX, hsa, hb, hL⟩ := hL
  obtain ⟨v, p1, z1, l1, p', z', l', h1, h2, h4⟩ := JT_get (l := l) (j_setGap (sv (nI k + 1).toNatClampNeg)) hJ
  refine ⟨p', z', l', h4, fun r μ' K => ?_⟩
  refine r_aload_n hB 1 rfl (by decide +kernel : decode code 482 = .ok (.aload_n 1, 1)) rfl ?_
  refine r_aload_n hB 0 rfl (by decide +kernel : decode code 483 = .ok (.aload_n 0, 1)) rfl ?_
  refine r_iload_n hB 3 rfl (by decide +kernel : decode code 484 = .ok (.iload_n 3, 1)) rfl ?_
  refine r_iconst hB (v := 1) (by decide +kernel : decode code 485 = .ok (.iconst 1, 1)) (by decide +kernel) ?_
  refine r_iadd hB (by decide +kernel : decode code 486 = .ok (.iadd, 1)) ?_
  refine r_sld hB hX hsa hb (in_L 1 1 rfl (by decide) hk hL) (by decide +kernel : decode code 487 = .ok (.iaload, 1)) ?_
  refine r_cVi (R := (v, M p1 z1 l1)) (K := some) (F := f_X11_setGap 0 (sv (nI k + 1).toNatClampNeg) (M p z l)) hB [.int (sv (nI k + 1).toNatClampNeg)] [] cf11 (own := "PulseRemoteLaw") rfl cmX11_setGap imX11_setGap (Or.inl k_716) (by decide) rfl rfl rfl (Nat.le_of_ble_eq_true rfl) (by decide +kernel : decode code 488 = .ok (.invokevirtual 49, 3)) (fun z hz => m_X11_setGap _ _ _ _ hz) rfl (isO_X h1) (fun w hw => ?_)
  obtain rfl := Option.some.inj hw
  refine r_aload_n hB 2 rfl (by decide +kernel : decode code 491 = .ok (.aload_n 2, 1)) rfl ?_
  refine r_aload_n hB 0 rfl (by decide +kernel : decode code 492 = .ok (.aload_n 0, 1)) rfl ?_
  refine r_iload_n hB 3 rfl (by decide +kernel : decode code 493 = .ok (.iload_n 3, 1)) rfl ?_
  refine r_iconst hB (v := 1) (by decide +kernel : decode code 494 = .ok (.iconst 1, 1)) (by decide +kernel) ?_
  refine r_iadd hB (by decide +kernel : decode code 495 = .ok (.iadd, 1)) ?_
  refine r_sld hB hX hsa hb (in_L 1 1 rfl (by decide) hk hL) (by decide +kernel : decode code 496 = .ok (.iaload, 1)) ?_
  refine r_cVi (R := (v, M p' z' l')) (K := some) (F := f_X12_setGap 189 (sv (nI k + 1).toNatClampNeg) (M p1 z1 l1)) hB [.int (sv (nI k + 1).toNatClampNeg)] [.int v] cf12 (own := "PulseRemoteLaw") rfl cmX12_setGap imX12_setGap (Or.inl k_1297) (by decide) rfl rfl rfl (Nat.le_of_ble_eq_true rfl) (by decide +kernel : decode code 497 = .ok (.invokevirtual 52, 3)) (fun z hz => m_X12_setGap _ _ _ _ hz) rfl (isO_Q h2) (fun w hw => ?_)
  obtain rfl := Option.some.inj hw
  exact r_icmp_eq (A := some ()) (B := none) (R := ()) hB (tgt := 1184) (by decide +kernel : decode code 500 = .ok (.if_icmp .eq 684, 3)) (by decide) (if_pos rfl) (fun _ _ => K) (fun h _ => absurd rfl h)
set_option maxHeartbeats 4000000 in
set_option maxRecDepth 100000 in
theorem op_9 {X : BX} {D : va_G} {cy : Nat → ClassId} {b sa L : Nat} {sv : Nat → Int32} (hL : LW X D cy b sa L sv) {k : Nat} (hk : k + 7 ≤ L) {p : Nat → Nat} {z l : Nat → Int → Int} (hJ : RJ p z) : OpL X D cy b sa k 505 p z l := by
  obtain ⟨hB, hX, hsa, hb, hL⟩ := hL
  obtain ⟨v, p1, z1, l1, p', z', l', h1, h2, h4⟩ := JT_get (l := l) (j_setHold (sv (nI k + 1).toNatClampNeg)) hJ
  refine ⟨p', z', l', h4, fun r μ' K => ?_⟩
  refine r_aload_n hB 1 rfl (by decide +kernel : decode code 505 = .ok (.aload_n 1, 1)) rfl ?_
  refine r_aload_n hB 0 rfl (by decide +kernel : decode code 506 = .ok (.aload_n 0, 1)) rfl ?_
  refine r_iload_n hB 3 rfl (by decide +kernel : decode code 507 = .ok (.iload_n 3, 1)) rfl ?_
  refine r_iconst hB (v := 1) (by decide +kernel : decode code 508 = .ok (.iconst 1, 1)) (by decide +kernel) ?_
  refine r_iadd hB (by decide +kernel : decode code 509 = .ok (.iadd, 1)) ?_
  refine r_sld hB hX hsa hb (in_L 1 1 rfl (by decide) hk hL) (by decide +kernel : decode code 510 = .ok (.iaload, 1)) ?_
  refine r_cVi (R := (v, M p1 z1 l1)) (K := some) (F := f_X11_setHold 0 (sv (nI k + 1).toNatClampNeg) (M p z l)) hB [.int (sv (nI k + 1).toNatClampNeg)] [] cf11 (own := "PulseRemoteLaw") rfl cmX11_setHold imX11_setHold (Or.inl k_721) (by decide) rfl rfl rfl (Nat.le_of_ble_eq_true rfl) (by decide +kernel : decode code 511 = .ok (.invokevirtual 53, 3)) (fun z hz => m_X11_setHold _ _ _ _ hz) rfl (isO_X h1) (fun w hw => ?_)
  obtain rfl := Option.some.inj hw
  refine r_aload_n hB 2 rfl (by decide +kernel : decode code 514 = .ok (.aload_n 2, 1)) rfl ?_
  refine r_aload_n hB 0 rfl (by decide +kernel : decode code 515 = .ok (.aload_n 0, 1)) rfl ?_
  refine r_iload_n hB 3 rfl (by decide +kernel : decode code 516 = .ok (.iload_n 3, 1)) rfl ?_
  refine r_iconst hB (v := 1) (by decide +kernel : decode code 517 = .ok (.iconst 1, 1)) (by decide +kernel) ?_
  refine r_iadd hB (by decide +kernel : decode code 518 = .ok (.iadd, 1)) ?_
  refine r_sld hB hX hsa hb (in_L 1 1 rfl (by decide) hk hL) (by decide +kernel : decode code 519 = .ok (.iaload, 1)) ?_
  refine r_cVi (R := (v, M p' z' l')) (K := some) (F := f_X12_setHold 189 (sv (nI k + 1).toNatClampNeg) (M p1 z1 l1)) hB [.int (sv (nI k + 1).toNatClampNeg)] [.int v] cf12 (own := "PulseRemoteLaw") rfl cmX12_setHold imX12_setHold (Or.inl k_1306) (by decide) rfl rfl rfl (Nat.le_of_ble_eq_true rfl) (by decide +kernel : decode code 520 = .ok (.invokevirtual 56, 3)) (fun z hz => m_X12_setHold _ _ _ _ hz) rfl (isO_Q h2) (fun w hw => ?_)
  obtain rfl := Option.some.inj hw
  exact r_icmp_eq (A := some ()) (B := none) (R := ()) hB (tgt := 1184) (by decide +kernel : decode code 523 = .ok (.if_icmp .eq 661, 3)) (by decide) (if_pos rfl) (fun _ _ => K) (fun h _ => absurd rfl h)
set_option maxHeartbeats 4000000 in
set_option maxRecDepth 100000 in
theorem op_10 {X : BX} {D : va_G} {cy : Nat → ClassId} {b sa L : Nat} {sv : Nat → Int32} (hL : LW X D cy b sa L sv) {k : Nat} (hk : k + 7 ≤ L) {p : Nat → Nat} {z l : Nat → Int → Int} (hJ : RJ p z) : OpL X D cy b sa k 528 p z l := by
  obtain ⟨hB, hX, hsa, hb, hL⟩ := hL
  obtain ⟨v, p1, z1, l1, p', z', l', h1, h2, h4⟩ := JT_get (l := l) (j_setTolerance (sv (nI k + 1).toNatClampNeg)) hJ
  refine ⟨p', z', l', h4, fun r μ' K => ?_⟩
  refine r_aload_n hB 1 rfl (by decide +kernel : decode code 528 = .ok (.aload_n 1, 1)) rfl ?_
  refine r_aload_n hB 0 rfl (by decide +kernel : decode code 529 = .ok (.aload_n 0, 1)) rfl ?_
  refine r_iload_n hB 3 rfl (by decide +kernel : decode code 530 = .ok (.iload_n 3, 1)) rfl ?_
  refine r_iconst hB (v := 1) (by decide +kernel : decode code 531 = .ok (.iconst 1, 1)) (by decide +kernel) ?_
  refine r_iadd hB (by decide +kernel : decode code 532 = .ok (.iadd, 1)) ?_
  refine r_sld hB hX hsa hb (in_L 1 1 rfl (by decide) hk hL) (by decide +kernel : decode code 533 = .ok (.iaload, 1)) ?_
  refine r_cVi (R := (v, M p1 z1 l1)) (K := some) (F := f_X11_setTolerance 0 (sv (nI k + 1).toNatClampNeg) (M p z l)) hB [.int (sv (nI k + 1).toNatClampNeg)] [] cf11 (own := "PulseRemoteLaw") rfl cmX11_setTolerance imX11_setTolerance (Or.inl k_725) (by decide) rfl rfl rfl (Nat.le_of_ble_eq_true rfl) (by decide +kernel : decode code 534 = .ok (.invokevirtual 57, 3)) (fun z hz => m_X11_setTolerance _ _ _ _ hz) rfl (isO_X h1) (fun w hw => ?_)
  obtain rfl := Option.some.inj hw
  refine r_aload_n hB 2 rfl (by decide +kernel : decode code 537 = .ok (.aload_n 2, 1)) rfl ?_
  refine r_aload_n hB 0 rfl (by decide +kernel : decode code 538 = .ok (.aload_n 0, 1)) rfl ?_
  refine r_iload_n hB 3 rfl (by decide +kernel : decode code 539 = .ok (.iload_n 3, 1)) rfl ?_
  refine r_iconst hB (v := 1) (by decide +kernel : decode code 540 = .ok (.iconst 1, 1)) (by decide +kernel) ?_
  refine r_iadd hB (by decide +kernel : decode code 541 = .ok (.iadd, 1)) ?_
  refine r_sld hB hX hsa hb (in_L 1 1 rfl (by decide) hk hL) (by decide +kernel : decode code 542 = .ok (.iaload, 1)) ?_
  refine r_cVi (R := (v, M p' z' l')) (K := some) (F := f_X12_setTolerance 189 (sv (nI k + 1).toNatClampNeg) (M p1 z1 l1)) hB [.int (sv (nI k + 1).toNatClampNeg)] [.int v] cf12 (own := "PulseRemoteLaw") rfl cmX12_setTolerance imX12_setTolerance (Or.inl k_1310) (by decide) rfl rfl rfl (Nat.le_of_ble_eq_true rfl) (by decide +kernel : decode code 543 = .ok (.invokevirtual 60, 3)) (fun z hz => m_X12_setTolerance _ _ _ _ hz) rfl (isO_Q h2) (fun w hw => ?_)
  obtain rfl := Option.some.inj hw
  exact r_icmp_eq (A := some ()) (B := none) (R := ()) hB (tgt := 1184) (by decide +kernel : decode code 546 = .ok (.if_icmp .eq 638, 3)) (by decide) (if_pos rfl) (fun _ _ => K) (fun h _ => absurd rfl h)
set_option maxHeartbeats 4000000 in
set_option maxRecDepth 100000 in
theorem op_11 {X : BX} {D : va_G} {cy : Nat → ClassId} {b sa L : Nat} {sv : Nat → Int32} (hL : LW X D cy b sa L sv) {k : Nat} (hk : k + 7 ≤ L) {p : Nat → Nat} {z l : Nat → Int → Int} (hJ : RJ p z) : OpL X D cy b sa k 551 p z l := by
  obtain ⟨hB, hX, hsa, hb, hL⟩ := hL
  obtain ⟨v, p1, z1, l1, p', z', l', h1, h2, h4⟩ := JT_get (l := l) (j_appendCharacter (sv (nI k + 1).toNatClampNeg)) hJ
  refine ⟨p', z', l', h4, fun r μ' K => ?_⟩
  refine r_aload_n hB 1 rfl (by decide +kernel : decode code 551 = .ok (.aload_n 1, 1)) rfl ?_
  refine r_aload_n hB 0 rfl (by decide +kernel : decode code 552 = .ok (.aload_n 0, 1)) rfl ?_
  refine r_iload_n hB 3 rfl (by decide +kernel : decode code 553 = .ok (.iload_n 3, 1)) rfl ?_
  refine r_iconst hB (v := 1) (by decide +kernel : decode code 554 = .ok (.iconst 1, 1)) (by decide +kernel) ?_
  refine r_iadd hB (by decide +kernel : decode code 555 = .ok (.iadd, 1)) ?_
  refine r_sld hB hX hsa hb (in_L 1 1 rfl (by decide) hk hL) (by decide +kernel : decode code 556 = .ok (.iaload, 1)) ?_
  refine r_cVi (R := (v, M p1 z1 l1)) (K := some) (F := f_X11_appendCharacter 0 (sv (nI k + 1).toNatClampNeg) (M p z l)) hB [.int (sv (nI k + 1).toNatClampNeg)] [] cf11 (own := "PulseRemoteLaw") rfl cmX11_appendCharacter imX11_appendCharacter (Or.inl k_729) (by decide) rfl rfl rfl (Nat.le_of_ble_eq_true rfl) (by decide +kernel : decode code 557 = .ok (.invokevirtual 61, 3)) (fun z hz => m_X11_appendCharacter _ _ _ _ hz) rfl (isO_X h1) (fun w hw => ?_)
  obtain rfl := Option.some.inj hw
  refine r_aload_n hB 2 rfl (by decide +kernel : decode code 560 = .ok (.aload_n 2, 1)) rfl ?_
  refine r_aload_n hB 0 rfl (by decide +kernel : decode code 561 = .ok (.aload_n 0, 1)) rfl ?_
  refine r_iload_n hB 3 rfl (by decide +kernel : decode code 562 = .ok (.iload_n 3, 1)) rfl ?_
  refine r_iconst hB (v := 1) (by decide +kernel : decode code 563 = .ok (.iconst 1, 1)) (by decide +kernel) ?_
  refine r_iadd hB (by decide +kernel : decode code 564 = .ok (.iadd, 1)) ?_
  refine r_sld hB hX hsa hb (in_L 1 1 rfl (by decide) hk hL) (by decide +kernel : decode code 565 = .ok (.iaload, 1)) ?_
  refine r_cVi (R := (v, M p' z' l')) (K := some) (F := f_X12_appendCharacter 189 (sv (nI k + 1).toNatClampNeg) (M p1 z1 l1)) hB [.int (sv (nI k + 1).toNatClampNeg)] [.int v] cf12 (own := "PulseRemoteLaw") rfl cmX12_appendCharacter imX12_appendCharacter (Or.inl k_1314) (by decide) rfl rfl rfl (Nat.le_of_ble_eq_true rfl) (by decide +kernel : decode code 566 = .ok (.invokevirtual 64, 3)) (fun z hz => m_X12_appendCharacter _ _ _ _ hz) rfl (isO_Q h2) (fun w hw => ?_)
  obtain rfl := Option.some.inj hw
  exact r_icmp_eq (A := some ()) (B := none) (R := ()) hB (tgt := 1184) (by decide +kernel : decode code 569 = .ok (.if_icmp .eq 615, 3)) (by decide) (if_pos rfl) (fun _ _ => K) (fun h _ => absurd rfl h)
set_option maxHeartbeats 4000000 in
set_option maxRecDepth 100000 in
theorem op_12 {X : BX} {D : va_G} {cy : Nat → ClassId} {b sa L : Nat} {sv : Nat → Int32} (hL : LW X D cy b sa L sv) {k : Nat} (hk : k + 7 ≤ L) {p : Nat → Nat} {z l : Nat → Int → Int} (hJ : RJ p z) : OpL X D cy b sa k 574 p z l := by
  obtain ⟨hB, hX, hsa, hb, hL⟩ := hL
  obtain ⟨v, p1, z1, l1, p', z', l', h1, h2, h4⟩ := JT_get (l := l) (j_clearText) hJ
  refine ⟨p', z', l', h4, fun r μ' K => ?_⟩
  refine r_aload_n hB 1 rfl (by decide +kernel : decode code 574 = .ok (.aload_n 1, 1)) rfl ?_
  refine r_cVi (R := (v, M p1 z1 l1)) (K := some) (F := f_X11_clearText 0  (M p z l)) hB [] [] cf11 (own := "PulseRemoteLaw") rfl cmX11_clearText imX11_clearText (Or.inl k_737) (by decide) rfl rfl rfl (Nat.le_of_ble_eq_true rfl) (by decide +kernel : decode code 575 = .ok (.invokevirtual 65, 3)) (fun z hz => m_X11_clearText _ _ _ _ hz) rfl (isO_X h1) (fun w hw => ?_)
  obtain rfl := Option.some.inj hw
  refine r_aload_n hB 2 rfl (by decide +kernel : decode code 578 = .ok (.aload_n 2, 1)) rfl ?_
  refine r_cVi (R := (v, M p' z' l')) (K := some) (F := f_X12_clearText 189  (M p1 z1 l1)) hB [] [.int v] cf12 (own := "PulseRemoteLaw") rfl cmX12_clearText imX12_clearText (Or.inl k_1318) (by decide) rfl rfl rfl (Nat.le_of_ble_eq_true rfl) (by decide +kernel : decode code 579 = .ok (.invokevirtual 69, 3)) (fun z hz => m_X12_clearText _ _ _ _ hz) rfl (isO_Q h2) (fun w hw => ?_)
  obtain rfl := Option.some.inj hw
  exact r_icmp_eq (A := some ()) (B := none) (R := ()) hB (tgt := 1184) (by decide +kernel : decode code 582 = .ok (.if_icmp .eq 602, 3)) (by decide) (if_pos rfl) (fun _ _ => K) (fun h _ => absurd rfl h)
set_option maxHeartbeats 4000000 in
set_option maxRecDepth 100000 in
theorem op_13 {X : BX} {D : va_G} {cy : Nat → ClassId} {b sa L : Nat} {sv : Nat → Int32} (hL : LW X D cy b sa L sv) {k : Nat} (hk : k + 7 ≤ L) {p : Nat → Nat} {z l : Nat → Int → Int} (hJ : RJ p z) : OpL X D cy b sa k 587 p z l := by
  obtain ⟨hB, hX, hsa, hb, hL⟩ := hL
  obtain ⟨v, p1, z1, l1, p', z', l', h1, h2, h4⟩ := JT_get (l := l) (j_load) hJ
  refine ⟨p', z', l', h4, fun r μ' K => ?_⟩
  refine r_aload_n hB 1 rfl (by decide +kernel : decode code 587 = .ok (.aload_n 1, 1)) rfl ?_
  refine r_cVi (R := (v, M p1 z1 l1)) (K := some) (F := f_X11_load 0  (M p z l)) hB [] [] cf11 (own := "PulseRemoteLaw") rfl cmX11_load imX11_load (Or.inl k_741) (by decide) rfl rfl rfl (Nat.le_of_ble_eq_true rfl) (by decide +kernel : decode code 588 = .ok (.invokevirtual 70, 3)) (fun z hz => m_X11_load _ _ _ _ hz) rfl (isO_X h1) (fun w hw => ?_)
  obtain rfl := Option.some.inj hw
  refine r_aload_n hB 2 rfl (by decide +kernel : decode code 591 = .ok (.aload_n 2, 1)) rfl ?_
  refine r_cVi (R := (v, M p' z' l')) (K := some) (F := f_X12_load 189  (M p1 z1 l1)) hB [] [.int v] cf12 (own := "PulseRemoteLaw") rfl cmX12_load imX12_load (Or.inl k_1322) (by decide) rfl rfl rfl (Nat.le_of_ble_eq_true rfl) (by decide +kernel : decode code 592 = .ok (.invokevirtual 73, 3)) (fun z hz => m_X12_load _ _ _ _ hz) rfl (isO_Q h2) (fun w hw => ?_)
  obtain rfl := Option.some.inj hw
  exact r_icmp_eq (A := some ()) (B := none) (R := ()) hB (tgt := 1184) (by decide +kernel : decode code 595 = .ok (.if_icmp .eq 589, 3)) (by decide) (if_pos rfl) (fun _ _ => K) (fun h _ => absurd rfl h)
set_option maxHeartbeats 4000000 in
set_option maxRecDepth 100000 in
theorem op_14 {X : BX} {D : va_G} {cy : Nat → ClassId} {b sa L : Nat} {sv : Nat → Int32} (hL : LW X D cy b sa L sv) {k : Nat} (hk : k + 7 ≤ L) {p : Nat → Nat} {z l : Nat → Int → Int} (hJ : RJ p z) : OpL X D cy b sa k 600 p z l := by
  obtain ⟨hB, hX, hsa, hb, hL⟩ := hL
  obtain ⟨v, p1, z1, l1, p', z', l', h1, h2, h4⟩ := JT_get (l := l) (j_append (sv (nI k + 1).toNatClampNeg) (sv (nI k + 2).toNatClampNeg)) hJ
  refine ⟨p', z', l', h4, fun r μ' K => ?_⟩
  refine r_aload_n hB 1 rfl (by decide +kernel : decode code 600 = .ok (.aload_n 1, 1)) rfl ?_
  refine r_aload_n hB 0 rfl (by decide +kernel : decode code 601 = .ok (.aload_n 0, 1)) rfl ?_
  refine r_iload_n hB 3 rfl (by decide +kernel : decode code 602 = .ok (.iload_n 3, 1)) rfl ?_
  refine r_iconst hB (v := 1) (by decide +kernel : decode code 603 = .ok (.iconst 1, 1)) (by decide +kernel) ?_
  refine r_iadd hB (by decide +kernel : decode code 604 = .ok (.iadd, 1)) ?_
  refine r_sld hB hX hsa hb (in_L 1 1 rfl (by decide) hk hL) (by decide +kernel : decode code 605 = .ok (.iaload, 1)) ?_
  refine r_aload_n hB 0 rfl (by decide +kernel : decode code 606 = .ok (.aload_n 0, 1)) rfl ?_
  refine r_iload_n hB 3 rfl (by decide +kernel : decode code 607 = .ok (.iload_n 3, 1)) rfl ?_
  refine r_iconst hB (v := 2) (by decide +kernel : decode code 608 = .ok (.iconst 2, 1)) (by decide +kernel) ?_
  refine r_iadd hB (by decide +kernel : decode code 609 = .ok (.iadd, 1)) ?_
  refine r_sld hB hX hsa hb (in_L 2 2 rfl (by decide) hk hL) (by decide +kernel : decode code 610 = .ok (.iaload, 1)) ?_
  refine r_cVi (R := (v, M p1 z1 l1)) (K := some) (F := f_X11_append 0 (sv (nI k + 1).toNatClampNeg) (sv (nI k + 2).toNatClampNeg) (M p z l)) hB [.int (sv (nI k + 1).toNatClampNeg), .int (sv (nI k + 2).toNatClampNeg)] [] cf11 (own := "PulseRemoteLaw") rfl cmX11_append imX11_append (Or.inl k_851) (by decide) rfl rfl rfl (Nat.le_of_ble_eq_true rfl) (by decide +kernel : decode code 611 = .ok (.invokevirtual 74, 3)) (fun z hz => m_X11_append _ _ _ _ hz) rfl (isO_X h1) (fun w hw => ?_)
  obtain rfl := Option.some.inj hw
  refine r_aload_n hB 2 rfl (by decide +kernel : decode code 614 = .ok (.aload_n 2, 1)) rfl ?_
  refine r_aload_n hB 0 rfl (by decide +kernel : decode code 615 = .ok (.aload_n 0, 1)) rfl ?_
  refine r_iload_n hB 3 rfl (by decide +kernel : decode code 616 = .ok (.iload_n 3, 1)) rfl ?_
  refine r_iconst hB (v := 1) (by decide +kernel : decode code 617 = .ok (.iconst 1, 1)) (by decide +kernel) ?_
  refine r_iadd hB (by decide +kernel : decode code 618 = .ok (.iadd, 1)) ?_
  refine r_sld hB hX hsa hb (in_L 1 1 rfl (by decide) hk hL) (by decide +kernel : decode code 619 = .ok (.iaload, 1)) ?_
  refine r_aload_n hB 0 rfl (by decide +kernel : decode code 620 = .ok (.aload_n 0, 1)) rfl ?_
  refine r_iload_n hB 3 rfl (by decide +kernel : decode code 621 = .ok (.iload_n 3, 1)) rfl ?_
  refine r_iconst hB (v := 2) (by decide +kernel : decode code 622 = .ok (.iconst 2, 1)) (by decide +kernel) ?_
  refine r_iadd hB (by decide +kernel : decode code 623 = .ok (.iadd, 1)) ?_
  refine r_sld hB hX hsa hb (in_L 2 2 rfl (by decide) hk hL) (by decide +kernel : decode code 624 = .ok (.iaload, 1)) ?_
  refine r_cVi (R := (v, M p' z' l')) (K := some) (F := f_X12_append 189 (sv (nI k + 1).toNatClampNeg) (sv (nI k + 2).toNatClampNeg) (M p1 z1 l1)) hB [.int (sv (nI k + 1).toNatClampNeg), .int (sv (nI k + 2).toNatClampNeg)] [.int v] cf12 (own := "PulseRemoteLaw") rfl cmX12_append imX12_append (Or.inl k_1363) (by decide) rfl rfl rfl (Nat.le_of_ble_eq_true rfl) (by decide +kernel : decode code 625 = .ok (.invokevirtual 77, 3)) (fun z hz => m_X12_append _ _ _ _ hz) rfl (isO_Q h2) (fun w hw => ?_)
  obtain rfl := Option.some.inj hw
  exact r_icmp_eq (A := some ()) (B := none) (R := ()) hB (tgt := 1184) (by decide +kernel : decode code 628 = .ok (.if_icmp .eq 556, 3)) (by decide) (if_pos rfl) (fun _ _ => K) (fun h _ => absurd rfl h)
set_option maxHeartbeats 4000000 in
set_option maxRecDepth 100000 in
theorem op_15 {X : BX} {D : va_G} {cy : Nat → ClassId} {b sa L : Nat} {sv : Nat → Int32} (hL : LW X D cy b sa L sv) {k : Nat} (hk : k + 7 ≤ L) {p : Nat → Nat} {z l : Nat → Int → Int} (hJ : RJ p z) : OpL X D cy b sa k 633 p z l := by
  obtain ⟨hB, hX, hsa, hb, hL⟩ := hL
  obtain ⟨v, p1, z1, l1, p', z', l', h1, h2, h4⟩ := JT_get (l := l) (j_send (sv (nI k + 1).toNatClampNeg) (sv (nI k + 2).toNatClampNeg) (sv (nI k + 3).toNatClampNeg) (sv (nI k + 4).toNatClampNeg)) hJ
  refine ⟨p', z', l', h4, fun r μ' K => ?_⟩
  refine r_aload_n hB 1 rfl (by decide +kernel : decode code 633 = .ok (.aload_n 1, 1)) rfl ?_
  refine r_aload_n hB 0 rfl (by decide +kernel : decode code 634 = .ok (.aload_n 0, 1)) rfl ?_
  refine r_iload_n hB 3 rfl (by decide +kernel : decode code 635 = .ok (.iload_n 3, 1)) rfl ?_
  refine r_iconst hB (v := 1) (by decide +kernel : decode code 636 = .ok (.iconst 1, 1)) (by decide +kernel) ?_
  refine r_iadd hB (by decide +kernel : decode code 637 = .ok (.iadd, 1)) ?_
  refine r_sld hB hX hsa hb (in_L 1 1 rfl (by decide) hk hL) (by decide +kernel : decode code 638 = .ok (.iaload, 1)) ?_
  refine r_aload_n hB 0 rfl (by decide +kernel : decode code 639 = .ok (.aload_n 0, 1)) rfl ?_
  refine r_iload_n hB 3 rfl (by decide +kernel : decode code 640 = .ok (.iload_n 3, 1)) rfl ?_
  refine r_iconst hB (v := 2) (by decide +kernel : decode code 641 = .ok (.iconst 2, 1)) (by decide +kernel) ?_
  refine r_iadd hB (by decide +kernel : decode code 642 = .ok (.iadd, 1)) ?_
  refine r_sld hB hX hsa hb (in_L 2 2 rfl (by decide) hk hL) (by decide +kernel : decode code 643 = .ok (.iaload, 1)) ?_
  refine r_aload_n hB 0 rfl (by decide +kernel : decode code 644 = .ok (.aload_n 0, 1)) rfl ?_
  refine r_iload_n hB 3 rfl (by decide +kernel : decode code 645 = .ok (.iload_n 3, 1)) rfl ?_
  refine r_iconst hB (v := 3) (by decide +kernel : decode code 646 = .ok (.iconst 3, 1)) (by decide +kernel) ?_
  refine r_iadd hB (by decide +kernel : decode code 647 = .ok (.iadd, 1)) ?_
  refine r_sld hB hX hsa hb (in_L 3 3 rfl (by decide) hk hL) (by decide +kernel : decode code 648 = .ok (.iaload, 1)) ?_
  refine r_aload_n hB 0 rfl (by decide +kernel : decode code 649 = .ok (.aload_n 0, 1)) rfl ?_
  refine r_iload_n hB 3 rfl (by decide +kernel : decode code 650 = .ok (.iload_n 3, 1)) rfl ?_
  refine r_iconst hB (v := 4) (by decide +kernel : decode code 651 = .ok (.iconst 4, 1)) (by decide +kernel) ?_
  refine r_iadd hB (by decide +kernel : decode code 652 = .ok (.iadd, 1)) ?_
  refine r_sld hB hX hsa hb (in_L 4 4 rfl (by decide) hk hL) (by decide +kernel : decode code 653 = .ok (.iaload, 1)) ?_
  refine r_cVi (R := (v, M p1 z1 l1)) (K := some) (F := f_X11_send 0 (sv (nI k + 1).toNatClampNeg) (sv (nI k + 2).toNatClampNeg) (sv (nI k + 3).toNatClampNeg) (sv (nI k + 4).toNatClampNeg) (M p z l)) hB [.int (sv (nI k + 1).toNatClampNeg), .int (sv (nI k + 2).toNatClampNeg), .int (sv (nI k + 3).toNatClampNeg), .int (sv (nI k + 4).toNatClampNeg)] [] cf11 (own := "PulseRemoteLaw") rfl cmX11_send imX11_send (Or.inl k_859) (by decide) rfl rfl rfl (Nat.le_of_ble_eq_true rfl) (by decide +kernel : decode code 654 = .ok (.invokevirtual 78, 3)) (fun z hz => m_X11_send _ _ _ _ hz) rfl (isO_X h1) (fun w hw => ?_)
  obtain rfl := Option.some.inj hw
  refine r_aload_n hB 2 rfl (by decide +kernel : decode code 657 = .ok (.aload_n 2, 1)) rfl ?_
  refine r_aload_n hB 0 rfl (by decide +kernel : decode code 658 = .ok (.aload_n 0, 1)) rfl ?_
  refine r_iload_n hB 3 rfl (by decide +kernel : decode code 659 = .ok (.iload_n 3, 1)) rfl ?_
  refine r_iconst hB (v := 1) (by decide +kernel : decode code 660 = .ok (.iconst 1, 1)) (by decide +kernel) ?_
  refine r_iadd hB (by decide +kernel : decode code 661 = .ok (.iadd, 1)) ?_
  refine r_sld hB hX hsa hb (in_L 1 1 rfl (by decide) hk hL) (by decide +kernel : decode code 662 = .ok (.iaload, 1)) ?_
  refine r_aload_n hB 0 rfl (by decide +kernel : decode code 663 = .ok (.aload_n 0, 1)) rfl ?_
  refine r_iload_n hB 3 rfl (by decide +kernel : decode code 664 = .ok (.iload_n 3, 1)) rfl ?_
  refine r_iconst hB (v := 2) (by decide +kernel : decode code 665 = .ok (.iconst 2, 1)) (by decide +kernel) ?_
  refine r_iadd hB (by decide +kernel : decode code 666 = .ok (.iadd, 1)) ?_
  refine r_sld hB hX hsa hb (in_L 2 2 rfl (by decide) hk hL) (by decide +kernel : decode code 667 = .ok (.iaload, 1)) ?_
  refine r_aload_n hB 0 rfl (by decide +kernel : decode code 668 = .ok (.aload_n 0, 1)) rfl ?_
  refine r_iload_n hB 3 rfl (by decide +kernel : decode code 669 = .ok (.iload_n 3, 1)) rfl ?_
  refine r_iconst hB (v := 3) (by decide +kernel : decode code 670 = .ok (.iconst 3, 1)) (by decide +kernel) ?_
  refine r_iadd hB (by decide +kernel : decode code 671 = .ok (.iadd, 1)) ?_
  refine r_sld hB hX hsa hb (in_L 3 3 rfl (by decide) hk hL) (by decide +kernel : decode code 672 = .ok (.iaload, 1)) ?_
  refine r_aload_n hB 0 rfl (by decide +kernel : decode code 673 = .ok (.aload_n 0, 1)) rfl ?_
  refine r_iload_n hB 3 rfl (by decide +kernel : decode code 674 = .ok (.iload_n 3, 1)) rfl ?_
  refine r_iconst hB (v := 4) (by decide +kernel : decode code 675 = .ok (.iconst 4, 1)) (by decide +kernel) ?_
  refine r_iadd hB (by decide +kernel : decode code 676 = .ok (.iadd, 1)) ?_
  refine r_sld hB hX hsa hb (in_L 4 4 rfl (by decide) hk hL) (by decide +kernel : decode code 677 = .ok (.iaload, 1)) ?_
  refine r_cVi (R := (v, M p' z' l')) (K := some) (F := f_X12_send 189 (sv (nI k + 1).toNatClampNeg) (sv (nI k + 2).toNatClampNeg) (sv (nI k + 3).toNatClampNeg) (sv (nI k + 4).toNatClampNeg) (M p1 z1 l1)) hB [.int (sv (nI k + 1).toNatClampNeg), .int (sv (nI k + 2).toNatClampNeg), .int (sv (nI k + 3).toNatClampNeg), .int (sv (nI k + 4).toNatClampNeg)] [.int v] cf12 (own := "PulseRemoteLaw") rfl cmX12_send imX12_send (Or.inl k_1373) (by decide) rfl rfl rfl (Nat.le_of_ble_eq_true rfl) (by decide +kernel : decode code 678 = .ok (.invokevirtual 81, 3)) (fun z hz => m_X12_send _ _ _ _ hz) rfl (isO_Q h2) (fun w hw => ?_)
  obtain rfl := Option.some.inj hw
  exact r_icmp_eq (A := some ()) (B := none) (R := ()) hB (tgt := 1184) (by decide +kernel : decode code 681 = .ok (.if_icmp .eq 503, 3)) (by decide) (if_pos rfl) (fun _ _ => K) (fun h _ => absurd rfl h)
set_option maxHeartbeats 4000000 in
set_option maxRecDepth 100000 in
theorem op_16 {X : BX} {D : va_G} {cy : Nat → ClassId} {b sa L : Nat} {sv : Nat → Int32} (hL : LW X D cy b sa L sv) {k : Nat} (hk : k + 7 ≤ L) {p : Nat → Nat} {z l : Nat → Int → Int} (hJ : RJ p z) : OpL X D cy b sa k 686 p z l := by
  obtain ⟨hB, hX, hsa, hb, hL⟩ := hL
  obtain ⟨v, p1, z1, l1, p', z', l', h1, h2, h4⟩ := JT_get (l := l) (j_sendShort (sv (nI k + 1).toNatClampNeg) (sv (nI k + 2).toNatClampNeg) (sv (nI k + 3).toNatClampNeg)) hJ
  refine ⟨p', z', l', h4, fun r μ' K => ?_⟩
  refine r_aload_n hB 1 rfl (by decide +kernel : decode code 686 = .ok (.aload_n 1, 1)) rfl ?_
  refine r_aload_n hB 0 rfl (by decide +kernel : decode code 687 = .ok (.aload_n 0, 1)) rfl ?_
  refine r_iload_n hB 3 rfl (by decide +kernel : decode code 688 = .ok (.iload_n 3, 1)) rfl ?_
  refine r_iconst hB (v := 1) (by decide +kernel : decode code 689 = .ok (.iconst 1, 1)) (by decide +kernel) ?_
  refine r_iadd hB (by decide +kernel : decode code 690 = .ok (.iadd, 1)) ?_
  refine r_sld hB hX hsa hb (in_L 1 1 rfl (by decide) hk hL) (by decide +kernel : decode code 691 = .ok (.iaload, 1)) ?_
  refine r_aload_n hB 0 rfl (by decide +kernel : decode code 692 = .ok (.aload_n 0, 1)) rfl ?_
  refine r_iload_n hB 3 rfl (by decide +kernel : decode code 693 = .ok (.iload_n 3, 1)) rfl ?_
  refine r_iconst hB (v := 2) (by decide +kernel : decode code 694 = .ok (.iconst 2, 1)) (by decide +kernel) ?_
  refine r_iadd hB (by decide +kernel : decode code 695 = .ok (.iadd, 1)) ?_
  refine r_sld hB hX hsa hb (in_L 2 2 rfl (by decide) hk hL) (by decide +kernel : decode code 696 = .ok (.iaload, 1)) ?_
  refine r_aload_n hB 0 rfl (by decide +kernel : decode code 697 = .ok (.aload_n 0, 1)) rfl ?_
  refine r_iload_n hB 3 rfl (by decide +kernel : decode code 698 = .ok (.iload_n 3, 1)) rfl ?_
  refine r_iconst hB (v := 3) (by decide +kernel : decode code 699 = .ok (.iconst 3, 1)) (by decide +kernel) ?_
  refine r_iadd hB (by decide +kernel : decode code 700 = .ok (.iadd, 1)) ?_
  refine r_sld hB hX hsa hb (in_L 3 3 rfl (by decide) hk hL) (by decide +kernel : decode code 701 = .ok (.iaload, 1)) ?_
  refine r_cVi (R := (v, M p1 z1 l1)) (K := some) (F := f_X11_sendShort 0 (sv (nI k + 1).toNatClampNeg) (sv (nI k + 2).toNatClampNeg) (sv (nI k + 3).toNatClampNeg) (M p z l)) hB [.int (sv (nI k + 1).toNatClampNeg), .int (sv (nI k + 2).toNatClampNeg), .int (sv (nI k + 3).toNatClampNeg)] [] cf11 (own := "PulseRemoteLaw") rfl cmX11_sendShort imX11_sendShort (Or.inl k_885) (by decide) rfl rfl rfl (Nat.le_of_ble_eq_true rfl) (by decide +kernel : decode code 702 = .ok (.invokevirtual 82, 3)) (fun z hz => m_X11_sendShort _ _ _ _ hz) rfl (isO_X h1) (fun w hw => ?_)
  obtain rfl := Option.some.inj hw
  refine r_aload_n hB 2 rfl (by decide +kernel : decode code 705 = .ok (.aload_n 2, 1)) rfl ?_
  refine r_aload_n hB 0 rfl (by decide +kernel : decode code 706 = .ok (.aload_n 0, 1)) rfl ?_
  refine r_iload_n hB 3 rfl (by decide +kernel : decode code 707 = .ok (.iload_n 3, 1)) rfl ?_
  refine r_iconst hB (v := 1) (by decide +kernel : decode code 708 = .ok (.iconst 1, 1)) (by decide +kernel) ?_
  refine r_iadd hB (by decide +kernel : decode code 709 = .ok (.iadd, 1)) ?_
  refine r_sld hB hX hsa hb (in_L 1 1 rfl (by decide) hk hL) (by decide +kernel : decode code 710 = .ok (.iaload, 1)) ?_
  refine r_aload_n hB 0 rfl (by decide +kernel : decode code 711 = .ok (.aload_n 0, 1)) rfl ?_
  refine r_iload_n hB 3 rfl (by decide +kernel : decode code 712 = .ok (.iload_n 3, 1)) rfl ?_
  refine r_iconst hB (v := 2) (by decide +kernel : decode code 713 = .ok (.iconst 2, 1)) (by decide +kernel) ?_
  refine r_iadd hB (by decide +kernel : decode code 714 = .ok (.iadd, 1)) ?_
  refine r_sld hB hX hsa hb (in_L 2 2 rfl (by decide) hk hL) (by decide +kernel : decode code 715 = .ok (.iaload, 1)) ?_
  refine r_aload_n hB 0 rfl (by decide +kernel : decode code 716 = .ok (.aload_n 0, 1)) rfl ?_
  refine r_iload_n hB 3 rfl (by decide +kernel : decode code 717 = .ok (.iload_n 3, 1)) rfl ?_
  refine r_iconst hB (v := 3) (by decide +kernel : decode code 718 = .ok (.iconst 3, 1)) (by decide +kernel) ?_
  refine r_iadd hB (by decide +kernel : decode code 719 = .ok (.iadd, 1)) ?_
  refine r_sld hB hX hsa hb (in_L 3 3 rfl (by decide) hk hL) (by decide +kernel : decode code 720 = .ok (.iaload, 1)) ?_
  refine r_cVi (R := (v, M p' z' l')) (K := some) (F := f_X12_sendShort 189 (sv (nI k + 1).toNatClampNeg) (sv (nI k + 2).toNatClampNeg) (sv (nI k + 3).toNatClampNeg) (M p1 z1 l1)) hB [.int (sv (nI k + 1).toNatClampNeg), .int (sv (nI k + 2).toNatClampNeg), .int (sv (nI k + 3).toNatClampNeg)] [.int v] cf12 (own := "PulseRemoteLaw") rfl cmX12_sendShort imX12_sendShort (Or.inl k_1397) (by decide) rfl rfl rfl (Nat.le_of_ble_eq_true rfl) (by decide +kernel : decode code 721 = .ok (.invokevirtual 86, 3)) (fun z hz => m_X12_sendShort _ _ _ _ hz) rfl (isO_Q h2) (fun w hw => ?_)
  obtain rfl := Option.some.inj hw
  exact r_icmp_eq (A := some ()) (B := none) (R := ()) hB (tgt := 1184) (by decide +kernel : decode code 724 = .ok (.if_icmp .eq 460, 3)) (by decide) (if_pos rfl) (fun _ _ => K) (fun h _ => absurd rfl h)
set_option maxHeartbeats 4000000 in
set_option maxRecDepth 100000 in
theorem op_17 {X : BX} {D : va_G} {cy : Nat → ClassId} {b sa L : Nat} {sv : Nat → Int32} (hL : LW X D cy b sa L sv) {k : Nat} (hk : k + 7 ≤ L) {p : Nat → Nat} {z l : Nat → Int → Int} (hJ : RJ p z) : OpL X D cy b sa k 729 p z l := by
  obtain ⟨hB, hX, hsa, hb, hL⟩ := hL
  obtain ⟨v, p1, z1, l1, p', z', l', h1, h2, h4⟩ := JT_get (l := l) (j_clear (sv (nI k + 1).toNatClampNeg)) hJ
  refine ⟨p', z', l', h4, fun r μ' K => ?_⟩
  refine r_aload_n hB 1 rfl (by decide +kernel : decode code 729 = .ok (.aload_n 1, 1)) rfl ?_
  refine r_aload_n hB 0 rfl (by decide +kernel : decode code 730 = .ok (.aload_n 0, 1)) rfl ?_
  refine r_iload_n hB 3 rfl (by decide +kernel : decode code 731 = .ok (.iload_n 3, 1)) rfl ?_
  refine r_iconst hB (v := 1) (by decide +kernel : decode code 732 = .ok (.iconst 1, 1)) (by decide +kernel) ?_
  refine r_iadd hB (by decide +kernel : decode code 733 = .ok (.iadd, 1)) ?_
  refine r_sld hB hX hsa hb (in_L 1 1 rfl (by decide) hk hL) (by decide +kernel : decode code 734 = .ok (.iaload, 1)) ?_
  refine r_cVi (R := (v, M p1 z1 l1)) (K := some) (F := f_X11_clear 0 (sv (nI k + 1).toNatClampNeg) (M p z l)) hB [.int (sv (nI k + 1).toNatClampNeg)] [] cf11 (own := "PulseRemoteLaw") rfl cmX11_clear imX11_clear (Or.inl k_893) (by decide) rfl rfl rfl (Nat.le_of_ble_eq_true rfl) (by decide +kernel : decode code 735 = .ok (.invokevirtual 87, 3)) (fun z hz => m_X11_clear _ _ _ _ hz) rfl (isO_X h1) (fun w hw => ?_)
  obtain rfl := Option.some.inj hw
  refine r_aload_n hB 2 rfl (by decide +kernel : decode code 738 = .ok (.aload_n 2, 1)) rfl ?_
  refine r_aload_n hB 0 rfl (by decide +kernel : decode code 739 = .ok (.aload_n 0, 1)) rfl ?_
  refine r_iload_n hB 3 rfl (by decide +kernel : decode code 740 = .ok (.iload_n 3, 1)) rfl ?_
  refine r_iconst hB (v := 1) (by decide +kernel : decode code 741 = .ok (.iconst 1, 1)) (by decide +kernel) ?_
  refine r_iadd hB (by decide +kernel : decode code 742 = .ok (.iadd, 1)) ?_
  refine r_sld hB hX hsa hb (in_L 1 1 rfl (by decide) hk hL) (by decide +kernel : decode code 743 = .ok (.iaload, 1)) ?_
  refine r_cVi (R := (v, M p' z' l')) (K := some) (F := f_X12_clear 189 (sv (nI k + 1).toNatClampNeg) (M p1 z1 l1)) hB [.int (sv (nI k + 1).toNatClampNeg)] [.int v] cf12 (own := "PulseRemoteLaw") rfl cmX12_clear imX12_clear (Or.inl k_1405) (by decide) rfl rfl rfl (Nat.le_of_ble_eq_true rfl) (by decide +kernel : decode code 744 = .ok (.invokevirtual 90, 3)) (fun z hz => m_X12_clear _ _ _ _ hz) rfl (isO_Q h2) (fun w hw => ?_)
  obtain rfl := Option.some.inj hw
  exact r_icmp_eq (A := some ()) (B := none) (R := ()) hB (tgt := 1184) (by decide +kernel : decode code 747 = .ok (.if_icmp .eq 437, 3)) (by decide) (if_pos rfl) (fun _ _ => K) (fun h _ => absurd rfl h)
set_option maxHeartbeats 4000000 in
set_option maxRecDepth 100000 in
theorem op_18 {X : BX} {D : va_G} {cy : Nat → ClassId} {b sa L : Nat} {sv : Nat → Int32} (hL : LW X D cy b sa L sv) {k : Nat} (hk : k + 7 ≤ L) {p : Nat → Nat} {z l : Nat → Int → Int} (hJ : RJ p z) : OpL X D cy b sa k 752 p z l := by
  obtain ⟨hB, hX, hsa, hb, hL⟩ := hL
  obtain ⟨v, p1, z1, l1, p', z', l', h1, h2, h4⟩ := JT_get (l := l) (j_overlay (sv (nI k + 1).toNatClampNeg) (sv (nI k + 2).toNatClampNeg) (sv (nI k + 3).toNatClampNeg)) hJ
  refine ⟨p', z', l', h4, fun r μ' K => ?_⟩
  refine r_aload_n hB 1 rfl (by decide +kernel : decode code 752 = .ok (.aload_n 1, 1)) rfl ?_
  refine r_aload_n hB 0 rfl (by decide +kernel : decode code 753 = .ok (.aload_n 0, 1)) rfl ?_
  refine r_iload_n hB 3 rfl (by decide +kernel : decode code 754 = .ok (.iload_n 3, 1)) rfl ?_
  refine r_iconst hB (v := 1) (by decide +kernel : decode code 755 = .ok (.iconst 1, 1)) (by decide +kernel) ?_
  refine r_iadd hB (by decide +kernel : decode code 756 = .ok (.iadd, 1)) ?_
  refine r_sld hB hX hsa hb (in_L 1 1 rfl (by decide) hk hL) (by decide +kernel : decode code 757 = .ok (.iaload, 1)) ?_
  refine r_aload_n hB 0 rfl (by decide +kernel : decode code 758 = .ok (.aload_n 0, 1)) rfl ?_
  refine r_iload_n hB 3 rfl (by decide +kernel : decode code 759 = .ok (.iload_n 3, 1)) rfl ?_
  refine r_iconst hB (v := 2) (by decide +kernel : decode code 760 = .ok (.iconst 2, 1)) (by decide +kernel) ?_
  refine r_iadd hB (by decide +kernel : decode code 761 = .ok (.iadd, 1)) ?_
  refine r_sld hB hX hsa hb (in_L 2 2 rfl (by decide) hk hL) (by decide +kernel : decode code 762 = .ok (.iaload, 1)) ?_
  refine r_aload_n hB 0 rfl (by decide +kernel : decode code 763 = .ok (.aload_n 0, 1)) rfl ?_
  refine r_iload_n hB 3 rfl (by decide +kernel : decode code 764 = .ok (.iload_n 3, 1)) rfl ?_
  refine r_iconst hB (v := 3) (by decide +kernel : decode code 765 = .ok (.iconst 3, 1)) (by decide +kernel) ?_
  refine r_iadd hB (by decide +kernel : decode code 766 = .ok (.iadd, 1)) ?_
  refine r_sld hB hX hsa hb (in_L 3 3 rfl (by decide) hk hL) (by decide +kernel : decode code 767 = .ok (.iaload, 1)) ?_
  refine r_cVi (R := (v, M p1 z1 l1)) (K := some) (F := f_X11_overlay 0 (sv (nI k + 1).toNatClampNeg) (sv (nI k + 2).toNatClampNeg) (sv (nI k + 3).toNatClampNeg) (M p z l)) hB [.int (sv (nI k + 1).toNatClampNeg), .int (sv (nI k + 2).toNatClampNeg), .int (sv (nI k + 3).toNatClampNeg)] [] cf11 (own := "PulseRemoteLaw") rfl cmX11_overlay imX11_overlay (Or.inl k_897) (by decide) rfl rfl rfl (Nat.le_of_ble_eq_true rfl) (by decide +kernel : decode code 768 = .ok (.invokevirtual 91, 3)) (fun z hz => m_X11_overlay _ _ _ _ hz) rfl (isO_X h1) (fun w hw => ?_)
  obtain rfl := Option.some.inj hw
  refine r_aload_n hB 2 rfl (by decide +kernel : decode code 771 = .ok (.aload_n 2, 1)) rfl ?_
  refine r_aload_n hB 0 rfl (by decide +kernel : decode code 772 = .ok (.aload_n 0, 1)) rfl ?_
  refine r_iload_n hB 3 rfl (by decide +kernel : decode code 773 = .ok (.iload_n 3, 1)) rfl ?_
  refine r_iconst hB (v := 1) (by decide +kernel : decode code 774 = .ok (.iconst 1, 1)) (by decide +kernel) ?_
  refine r_iadd hB (by decide +kernel : decode code 775 = .ok (.iadd, 1)) ?_
  refine r_sld hB hX hsa hb (in_L 1 1 rfl (by decide) hk hL) (by decide +kernel : decode code 776 = .ok (.iaload, 1)) ?_
  refine r_aload_n hB 0 rfl (by decide +kernel : decode code 777 = .ok (.aload_n 0, 1)) rfl ?_
  refine r_iload_n hB 3 rfl (by decide +kernel : decode code 778 = .ok (.iload_n 3, 1)) rfl ?_
  refine r_iconst hB (v := 2) (by decide +kernel : decode code 779 = .ok (.iconst 2, 1)) (by decide +kernel) ?_
  refine r_iadd hB (by decide +kernel : decode code 780 = .ok (.iadd, 1)) ?_
  refine r_sld hB hX hsa hb (in_L 2 2 rfl (by decide) hk hL) (by decide +kernel : decode code 781 = .ok (.iaload, 1)) ?_
  refine r_aload_n hB 0 rfl (by decide +kernel : decode code 782 = .ok (.aload_n 0, 1)) rfl ?_
  refine r_iload_n hB 3 rfl (by decide +kernel : decode code 783 = .ok (.iload_n 3, 1)) rfl ?_
  refine r_iconst hB (v := 3) (by decide +kernel : decode code 784 = .ok (.iconst 3, 1)) (by decide +kernel) ?_
  refine r_iadd hB (by decide +kernel : decode code 785 = .ok (.iadd, 1)) ?_
  refine r_sld hB hX hsa hb (in_L 3 3 rfl (by decide) hk hL) (by decide +kernel : decode code 786 = .ok (.iaload, 1)) ?_
  refine r_cVi (R := (v, M p' z' l')) (K := some) (F := f_X12_overlay 189 (sv (nI k + 1).toNatClampNeg) (sv (nI k + 2).toNatClampNeg) (sv (nI k + 3).toNatClampNeg) (M p1 z1 l1)) hB [.int (sv (nI k + 1).toNatClampNeg), .int (sv (nI k + 2).toNatClampNeg), .int (sv (nI k + 3).toNatClampNeg)] [.int v] cf12 (own := "PulseRemoteLaw") rfl cmX12_overlay imX12_overlay (Or.inl k_1409) (by decide) rfl rfl rfl (Nat.le_of_ble_eq_true rfl) (by decide +kernel : decode code 787 = .ok (.invokevirtual 94, 3)) (fun z hz => m_X12_overlay _ _ _ _ hz) rfl (isO_Q h2) (fun w hw => ?_)
  obtain rfl := Option.some.inj hw
  exact r_icmp_eq (A := some ()) (B := none) (R := ()) hB (tgt := 1184) (by decide +kernel : decode code 790 = .ok (.if_icmp .eq 394, 3)) (by decide) (if_pos rfl) (fun _ _ => K) (fun h _ => absurd rfl h)
set_option maxHeartbeats 4000000 in
set_option maxRecDepth 100000 in
theorem op_19 {X : BX} {D : va_G} {cy : Nat → ClassId} {b sa L : Nat} {sv : Nat → Int32} (hL : LW X D cy b sa L sv) {k : Nat} (hk : k + 7 ≤ L) {p : Nat → Nat} {z l : Nat → Int → Int} (hJ : RJ p z) : OpL X D cy b sa k 795 p z l := by
  obtain ⟨hB, hX, hsa, hb, hL⟩ := hL
  obtain ⟨v, p1, z1, l1, p', z', l', h1, h2, h4⟩ := JT_get (l := l) (j_distort (sv (nI k + 1).toNatClampNeg) (sv (nI k + 2).toNatClampNeg) (sv (nI k + 3).toNatClampNeg)) hJ
  refine ⟨p', z', l', h4, fun r μ' K => ?_⟩
  refine r_aload_n hB 1 rfl (by decide +kernel : decode code 795 = .ok (.aload_n 1, 1)) rfl ?_
  refine r_aload_n hB 0 rfl (by decide +kernel : decode code 796 = .ok (.aload_n 0, 1)) rfl ?_
  refine r_iload_n hB 3 rfl (by decide +kernel : decode code 797 = .ok (.iload_n 3, 1)) rfl ?_
  refine r_iconst hB (v := 1) (by decide +kernel : decode code 798 = .ok (.iconst 1, 1)) (by decide +kernel) ?_
  refine r_iadd hB (by decide +kernel : decode code 799 = .ok (.iadd, 1)) ?_
  refine r_sld hB hX hsa hb (in_L 1 1 rfl (by decide) hk hL) (by decide +kernel : decode code 800 = .ok (.iaload, 1)) ?_
  refine r_aload_n hB 0 rfl (by decide +kernel : decode code 801 = .ok (.aload_n 0, 1)) rfl ?_
  refine r_iload_n hB 3 rfl (by decide +kernel : decode code 802 = .ok (.iload_n 3, 1)) rfl ?_
  refine r_iconst hB (v := 2) (by decide +kernel : decode code 803 = .ok (.iconst 2, 1)) (by decide +kernel) ?_
  refine r_iadd hB (by decide +kernel : decode code 804 = .ok (.iadd, 1)) ?_
  refine r_sld hB hX hsa hb (in_L 2 2 rfl (by decide) hk hL) (by decide +kernel : decode code 805 = .ok (.iaload, 1)) ?_
  refine r_aload_n hB 0 rfl (by decide +kernel : decode code 806 = .ok (.aload_n 0, 1)) rfl ?_
  refine r_iload_n hB 3 rfl (by decide +kernel : decode code 807 = .ok (.iload_n 3, 1)) rfl ?_
  refine r_iconst hB (v := 3) (by decide +kernel : decode code 808 = .ok (.iconst 3, 1)) (by decide +kernel) ?_
  refine r_iadd hB (by decide +kernel : decode code 809 = .ok (.iadd, 1)) ?_
  refine r_sld hB hX hsa hb (in_L 3 3 rfl (by decide) hk hL) (by decide +kernel : decode code 810 = .ok (.iaload, 1)) ?_
  refine r_cVi (R := (v, M p1 z1 l1)) (K := some) (F := f_X11_distort 0 (sv (nI k + 1).toNatClampNeg) (sv (nI k + 2).toNatClampNeg) (sv (nI k + 3).toNatClampNeg) (M p z l)) hB [.int (sv (nI k + 1).toNatClampNeg), .int (sv (nI k + 2).toNatClampNeg), .int (sv (nI k + 3).toNatClampNeg)] [] cf11 (own := "PulseRemoteLaw") rfl cmX11_distort imX11_distort (Or.inl k_931) (by decide) rfl rfl rfl (Nat.le_of_ble_eq_true rfl) (by decide +kernel : decode code 811 = .ok (.invokevirtual 95, 3)) (fun z hz => m_X11_distort _ _ _ _ hz) rfl (isO_X h1) (fun w hw => ?_)
  obtain rfl := Option.some.inj hw
  refine r_aload_n hB 2 rfl (by decide +kernel : decode code 814 = .ok (.aload_n 2, 1)) rfl ?_
  refine r_aload_n hB 0 rfl (by decide +kernel : decode code 815 = .ok (.aload_n 0, 1)) rfl ?_
  refine r_iload_n hB 3 rfl (by decide +kernel : decode code 816 = .ok (.iload_n 3, 1)) rfl ?_
  refine r_iconst hB (v := 1) (by decide +kernel : decode code 817 = .ok (.iconst 1, 1)) (by decide +kernel) ?_
  refine r_iadd hB (by decide +kernel : decode code 818 = .ok (.iadd, 1)) ?_
  refine r_sld hB hX hsa hb (in_L 1 1 rfl (by decide) hk hL) (by decide +kernel : decode code 819 = .ok (.iaload, 1)) ?_
  refine r_aload_n hB 0 rfl (by decide +kernel : decode code 820 = .ok (.aload_n 0, 1)) rfl ?_
  refine r_iload_n hB 3 rfl (by decide +kernel : decode code 821 = .ok (.iload_n 3, 1)) rfl ?_
  refine r_iconst hB (v := 2) (by decide +kernel : decode code 822 = .ok (.iconst 2, 1)) (by decide +kernel) ?_
  refine r_iadd hB (by decide +kernel : decode code 823 = .ok (.iadd, 1)) ?_
  refine r_sld hB hX hsa hb (in_L 2 2 rfl (by decide) hk hL) (by decide +kernel : decode code 824 = .ok (.iaload, 1)) ?_
  refine r_aload_n hB 0 rfl (by decide +kernel : decode code 825 = .ok (.aload_n 0, 1)) rfl ?_
  refine r_iload_n hB 3 rfl (by decide +kernel : decode code 826 = .ok (.iload_n 3, 1)) rfl ?_
  refine r_iconst hB (v := 3) (by decide +kernel : decode code 827 = .ok (.iconst 3, 1)) (by decide +kernel) ?_
  refine r_iadd hB (by decide +kernel : decode code 828 = .ok (.iadd, 1)) ?_
  refine r_sld hB hX hsa hb (in_L 3 3 rfl (by decide) hk hL) (by decide +kernel : decode code 829 = .ok (.iaload, 1)) ?_
  refine r_cVi (R := (v, M p' z' l')) (K := some) (F := f_X12_distort 189 (sv (nI k + 1).toNatClampNeg) (sv (nI k + 2).toNatClampNeg) (sv (nI k + 3).toNatClampNeg) (M p1 z1 l1)) hB [.int (sv (nI k + 1).toNatClampNeg), .int (sv (nI k + 2).toNatClampNeg), .int (sv (nI k + 3).toNatClampNeg)] [.int v] cf12 (own := "PulseRemoteLaw") rfl cmX12_distort imX12_distort (Or.inl k_1421) (by decide) rfl rfl rfl (Nat.le_of_ble_eq_true rfl) (by decide +kernel : decode code 830 = .ok (.invokevirtual 98, 3)) (fun z hz => m_X12_distort _ _ _ _ hz) rfl (isO_Q h2) (fun w hw => ?_)
  obtain rfl := Option.some.inj hw
  exact r_icmp_eq (A := some ()) (B := none) (R := ()) hB (tgt := 1184) (by decide +kernel : decode code 833 = .ok (.if_icmp .eq 351, 3)) (by decide) (if_pos rfl) (fun _ _ => K) (fun h _ => absurd rfl h)
set_option maxHeartbeats 4000000 in
set_option maxRecDepth 100000 in
theorem op_20 {X : BX} {D : va_G} {cy : Nat → ClassId} {b sa L : Nat} {sv : Nat → Int32} (hL : LW X D cy b sa L sv) {k : Nat} (hk : k + 7 ≤ L) {p : Nat → Nat} {z l : Nat → Int → Int} (hJ : RJ p z) : OpL X D cy b sa k 838 p z l := by
  obtain ⟨hB, hX, hsa, hb, hL⟩ := hL
  obtain ⟨v, p1, z1, l1, p', z', l', h1, h2, h4⟩ := JT_get (l := l) (j_duration (sv (nI k + 1).toNatClampNeg) (sv (nI k + 2).toNatClampNeg)) hJ
  refine ⟨p', z', l', h4, fun r μ' K => ?_⟩
  refine r_aload_n hB 1 rfl (by decide +kernel : decode code 838 = .ok (.aload_n 1, 1)) rfl ?_
  refine r_aload_n hB 0 rfl (by decide +kernel : decode code 839 = .ok (.aload_n 0, 1)) rfl ?_
  refine r_iload_n hB 3 rfl (by decide +kernel : decode code 840 = .ok (.iload_n 3, 1)) rfl ?_
  refine r_iconst hB (v := 1) (by decide +kernel : decode code 841 = .ok (.iconst 1, 1)) (by decide +kernel) ?_
  refine r_iadd hB (by decide +kernel : decode code 842 = .ok (.iadd, 1)) ?_
  refine r_sld hB hX hsa hb (in_L 1 1 rfl (by decide) hk hL) (by decide +kernel : decode code 843 = .ok (.iaload, 1)) ?_
  refine r_aload_n hB 0 rfl (by decide +kernel : decode code 844 = .ok (.aload_n 0, 1)) rfl ?_
  refine r_iload_n hB 3 rfl (by decide +kernel : decode code 845 = .ok (.iload_n 3, 1)) rfl ?_
  refine r_iconst hB (v := 2) (by decide +kernel : decode code 846 = .ok (.iconst 2, 1)) (by decide +kernel) ?_
  refine r_iadd hB (by decide +kernel : decode code 847 = .ok (.iadd, 1)) ?_
  refine r_sld hB hX hsa hb (in_L 2 2 rfl (by decide) hk hL) (by decide +kernel : decode code 848 = .ok (.iaload, 1)) ?_
  refine r_cVi (R := (v, M p1 z1 l1)) (K := some) (F := f_X11_duration 0 (sv (nI k + 1).toNatClampNeg) (sv (nI k + 2).toNatClampNeg) (M p z l)) hB [.int (sv (nI k + 1).toNatClampNeg), .int (sv (nI k + 2).toNatClampNeg)] [] cf11 (own := "PulseRemoteLaw") rfl cmX11_duration imX11_duration (Or.inl k_940) (by decide) rfl rfl rfl (Nat.le_of_ble_eq_true rfl) (by decide +kernel : decode code 849 = .ok (.invokevirtual 99, 3)) (fun z hz => m_X11_duration _ _ _ _ hz) rfl (isO_X h1) (fun w hw => ?_)
  obtain rfl := Option.some.inj hw
  refine r_aload_n hB 2 rfl (by decide +kernel : decode code 852 = .ok (.aload_n 2, 1)) rfl ?_
  refine r_aload_n hB 0 rfl (by decide +kernel : decode code 853 = .ok (.aload_n 0, 1)) rfl ?_
  refine r_iload_n hB 3 rfl (by decide +kernel : decode code 854 = .ok (.iload_n 3, 1)) rfl ?_
  refine r_iconst hB (v := 1) (by decide +kernel : decode code 855 = .ok (.iconst 1, 1)) (by decide +kernel) ?_
  refine r_iadd hB (by decide +kernel : decode code 856 = .ok (.iadd, 1)) ?_
  refine r_sld hB hX hsa hb (in_L 1 1 rfl (by decide) hk hL) (by decide +kernel : decode code 857 = .ok (.iaload, 1)) ?_
  refine r_aload_n hB 0 rfl (by decide +kernel : decode code 858 = .ok (.aload_n 0, 1)) rfl ?_
  refine r_iload_n hB 3 rfl (by decide +kernel : decode code 859 = .ok (.iload_n 3, 1)) rfl ?_
  refine r_iconst hB (v := 2) (by decide +kernel : decode code 860 = .ok (.iconst 2, 1)) (by decide +kernel) ?_
  refine r_iadd hB (by decide +kernel : decode code 861 = .ok (.iadd, 1)) ?_
  refine r_sld hB hX hsa hb (in_L 2 2 rfl (by decide) hk hL) (by decide +kernel : decode code 862 = .ok (.iaload, 1)) ?_
  refine r_cVi (R := (v, M p' z' l')) (K := some) (F := f_X12_duration 189 (sv (nI k + 1).toNatClampNeg) (sv (nI k + 2).toNatClampNeg) (M p1 z1 l1)) hB [.int (sv (nI k + 1).toNatClampNeg), .int (sv (nI k + 2).toNatClampNeg)] [.int v] cf12 (own := "PulseRemoteLaw") rfl cmX12_duration imX12_duration (Or.inl k_1428) (by decide) rfl rfl rfl (Nat.le_of_ble_eq_true rfl) (by decide +kernel : decode code 863 = .ok (.invokevirtual 102, 3)) (fun z hz => m_X12_duration _ _ _ _ hz) rfl (isO_Q h2) (fun w hw => ?_)
  obtain rfl := Option.some.inj hw
  exact r_icmp_eq (A := some ()) (B := none) (R := ()) hB (tgt := 1184) (by decide +kernel : decode code 866 = .ok (.if_icmp .eq 318, 3)) (by decide) (if_pos rfl) (fun _ _ => K) (fun h _ => absurd rfl h)
set_option maxHeartbeats 4000000 in
set_option maxRecDepth 100000 in
theorem op_21 {X : BX} {D : va_G} {cy : Nat → ClassId} {b sa L : Nat} {sv : Nat → Int32} (hL : LW X D cy b sa L sv) {k : Nat} (hk : k + 7 ≤ L) {p : Nat → Nat} {z l : Nat → Int → Int} (hJ : RJ p z) : OpL X D cy b sa k 871 p z l := by
  obtain ⟨hB, hX, hsa, hb, hL⟩ := hL
  obtain ⟨v, p1, z1, l1, p', z', l', h1, h2, h4⟩ := JT_get (l := l) (j_length (sv (nI k + 1).toNatClampNeg)) hJ
  refine ⟨p', z', l', h4, fun r μ' K => ?_⟩
  refine r_aload_n hB 1 rfl (by decide +kernel : decode code 871 = .ok (.aload_n 1, 1)) rfl ?_
  refine r_aload_n hB 0 rfl (by decide +kernel : decode code 872 = .ok (.aload_n 0, 1)) rfl ?_
  refine r_iload_n hB 3 rfl (by decide +kernel : decode code 873 = .ok (.iload_n 3, 1)) rfl ?_
  refine r_iconst hB (v := 1) (by decide +kernel : decode code 874 = .ok (.iconst 1, 1)) (by decide +kernel) ?_
  refine r_iadd hB (by decide +kernel : decode code 875 = .ok (.iadd, 1)) ?_
  refine r_sld hB hX hsa hb (in_L 1 1 rfl (by decide) hk hL) (by decide +kernel : decode code 876 = .ok (.iaload, 1)) ?_
  refine r_cVi (R := (v, M p1 z1 l1)) (K := some) (F := f_X11_length 0 (sv (nI k + 1).toNatClampNeg) (M p z l)) hB [.int (sv (nI k + 1).toNatClampNeg)] [] cf11 (own := "PulseRemoteLaw") rfl cmX11_length imX11_length (Or.inl k_944) (by decide) rfl rfl rfl (Nat.le_of_ble_eq_true rfl) (by decide +kernel : decode code 877 = .ok (.invokevirtual 103, 3)) (fun z hz => m_X11_length _ _ _ _ hz) rfl (isO_X h1) (fun w hw => ?_)
  obtain rfl := Option.some.inj hw
  refine r_aload_n hB 2 rfl (by decide +kernel : decode code 880 = .ok (.aload_n 2, 1)) rfl ?_
  refine r_aload_n hB 0 rfl (by decide +kernel : decode code 881 = .ok (.aload_n 0, 1)) rfl ?_
  refine r_iload_n hB 3 rfl (by decide +kernel : decode code 882 = .ok (.iload_n 3, 1)) rfl ?_
  refine r_iconst hB (v := 1) (by decide +kernel : decode code 883 = .ok (.iconst 1, 1)) (by decide +kernel) ?_
  refine r_iadd hB (by decide +kernel : decode code 884 = .ok (.iadd, 1)) ?_
  refine r_sld hB hX hsa hb (in_L 1 1 rfl (by decide) hk hL) (by decide +kernel : decode code 885 = .ok (.iaload, 1)) ?_
  refine r_cVi (R := (v, M p' z' l')) (K := some) (F := f_X12_length 189 (sv (nI k + 1).toNatClampNeg) (M p1 z1 l1)) hB [.int (sv (nI k + 1).toNatClampNeg)] [.int v] cf12 (own := "PulseRemoteLaw") rfl cmX12_length imX12_length (Or.inl k_1432) (by decide) rfl rfl rfl (Nat.le_of_ble_eq_true rfl) (by decide +kernel : decode code 886 = .ok (.invokevirtual 106, 3)) (fun z hz => m_X12_length _ _ _ _ hz) rfl (isO_Q h2) (fun w hw => ?_)
  obtain rfl := Option.some.inj hw
  exact r_icmp_eq (A := some ()) (B := none) (R := ()) hB (tgt := 1184) (by decide +kernel : decode code 889 = .ok (.if_icmp .eq 295, 3)) (by decide) (if_pos rfl) (fun _ _ => K) (fun h _ => absurd rfl h)
set_option maxHeartbeats 4000000 in
set_option maxRecDepth 100000 in
theorem op_22 {X : BX} {D : va_G} {cy : Nat → ClassId} {b sa L : Nat} {sv : Nat → Int32} (hL : LW X D cy b sa L sv) {k : Nat} (hk : k + 7 ≤ L) {p : Nat → Nat} {z l : Nat → Int → Int} (hJ : RJ p z) : OpL X D cy b sa k 894 p z l := by
  obtain ⟨hB, hX, hsa, hb, hL⟩ := hL
  obtain ⟨v, p1, z1, l1, p', z', l', h1, h2, h4⟩ := JT_get (l := l) (j_frameCount (sv (nI k + 1).toNatClampNeg)) hJ
  refine ⟨p', z', l', h4, fun r μ' K => ?_⟩
  refine r_aload_n hB 1 rfl (by decide +kernel : decode code 894 = .ok (.aload_n 1, 1)) rfl ?_
  refine r_aload_n hB 0 rfl (by decide +kernel : decode code 895 = .ok (.aload_n 0, 1)) rfl ?_
  refine r_iload_n hB 3 rfl (by decide +kernel : decode code 896 = .ok (.iload_n 3, 1)) rfl ?_
  refine r_iconst hB (v := 1) (by decide +kernel : decode code 897 = .ok (.iconst 1, 1)) (by decide +kernel) ?_
  refine r_iadd hB (by decide +kernel : decode code 898 = .ok (.iadd, 1)) ?_
  refine r_sld hB hX hsa hb (in_L 1 1 rfl (by decide) hk hL) (by decide +kernel : decode code 899 = .ok (.iaload, 1)) ?_
  refine r_cVi (R := (v, M p1 z1 l1)) (K := some) (F := f_X11_frameCount 0 (sv (nI k + 1).toNatClampNeg) (M p z l)) hB [.int (sv (nI k + 1).toNatClampNeg)] [] cf11 (own := "PulseRemoteLaw") rfl cmX11_frameCount imX11_frameCount (Or.inl k_948) (by decide) rfl rfl rfl (Nat.le_of_ble_eq_true rfl) (by decide +kernel : decode code 900 = .ok (.invokevirtual 107, 3)) (fun z hz => m_X11_frameCount _ _ _ _ hz) rfl (isO_X h1) (fun w hw => ?_)
  obtain rfl := Option.some.inj hw
  refine r_aload_n hB 2 rfl (by decide +kernel : decode code 903 = .ok (.aload_n 2, 1)) rfl ?_
  refine r_aload_n hB 0 rfl (by decide +kernel : decode code 904 = .ok (.aload_n 0, 1)) rfl ?_
  refine r_iload_n hB 3 rfl (by decide +kernel : decode code 905 = .ok (.iload_n 3, 1)) rfl ?_
  refine r_iconst hB (v := 1) (by decide +kernel : decode code 906 = .ok (.iconst 1, 1)) (by decide +kernel) ?_
  refine r_iadd hB (by decide +kernel : decode code 907 = .ok (.iadd, 1)) ?_
  refine r_sld hB hX hsa hb (in_L 1 1 rfl (by decide) hk hL) (by decide +kernel : decode code 908 = .ok (.iaload, 1)) ?_
  refine r_cVi (R := (v, M p' z' l')) (K := some) (F := f_X12_frameCount 189 (sv (nI k + 1).toNatClampNeg) (M p1 z1 l1)) hB [.int (sv (nI k + 1).toNatClampNeg)] [.int v] cf12 (own := "PulseRemoteLaw") rfl cmX12_frameCount imX12_frameCount (Or.inl k_1436) (by decide) rfl rfl rfl (Nat.le_of_ble_eq_true rfl) (by decide +kernel : decode code 909 = .ok (.invokevirtual 110, 3)) (fun z hz => m_X12_frameCount _ _ _ _ hz) rfl (isO_Q h2) (fun w hw => ?_)
  obtain rfl := Option.some.inj hw
  exact r_icmp_eq (A := some ()) (B := none) (R := ()) hB (tgt := 1184) (by decide +kernel : decode code 912 = .ok (.if_icmp .eq 272, 3)) (by decide) (if_pos rfl) (fun _ _ => K) (fun h _ => absurd rfl h)
set_option maxHeartbeats 4000000 in
set_option maxRecDepth 100000 in
theorem op_23 {X : BX} {D : va_G} {cy : Nat → ClassId} {b sa L : Nat} {sv : Nat → Int32} (hL : LW X D cy b sa L sv) {k : Nat} (hk : k + 7 ≤ L) {p : Nat → Nat} {z l : Nat → Int → Int} (hJ : RJ p z) : OpL X D cy b sa k 917 p z l := by
  obtain ⟨hB, hX, hsa, hb, hL⟩ := hL
  obtain ⟨v, p1, z1, l1, p', z', l', h1, h2, h4⟩ := JT_get (l := l) (j_frame (sv (nI k + 1).toNatClampNeg) (sv (nI k + 2).toNatClampNeg) (sv (nI k + 3).toNatClampNeg)) hJ
  refine ⟨p', z', l', h4, fun r μ' K => ?_⟩
  refine r_aload_n hB 1 rfl (by decide +kernel : decode code 917 = .ok (.aload_n 1, 1)) rfl ?_
  refine r_aload_n hB 0 rfl (by decide +kernel : decode code 918 = .ok (.aload_n 0, 1)) rfl ?_
  refine r_iload_n hB 3 rfl (by decide +kernel : decode code 919 = .ok (.iload_n 3, 1)) rfl ?_
  refine r_iconst hB (v := 1) (by decide +kernel : decode code 920 = .ok (.iconst 1, 1)) (by decide +kernel) ?_
  refine r_iadd hB (by decide +kernel : decode code 921 = .ok (.iadd, 1)) ?_
  refine r_sld hB hX hsa hb (in_L 1 1 rfl (by decide) hk hL) (by decide +kernel : decode code 922 = .ok (.iaload, 1)) ?_
  refine r_aload_n hB 0 rfl (by decide +kernel : decode code 923 = .ok (.aload_n 0, 1)) rfl ?_
  refine r_iload_n hB 3 rfl (by decide +kernel : decode code 924 = .ok (.iload_n 3, 1)) rfl ?_
  refine r_iconst hB (v := 2) (by decide +kernel : decode code 925 = .ok (.iconst 2, 1)) (by decide +kernel) ?_
  refine r_iadd hB (by decide +kernel : decode code 926 = .ok (.iadd, 1)) ?_
  refine r_sld hB hX hsa hb (in_L 2 2 rfl (by decide) hk hL) (by decide +kernel : decode code 927 = .ok (.iaload, 1)) ?_
  refine r_aload_n hB 0 rfl (by decide +kernel : decode code 928 = .ok (.aload_n 0, 1)) rfl ?_
  refine r_iload_n hB 3 rfl (by decide +kernel : decode code 929 = .ok (.iload_n 3, 1)) rfl ?_
  refine r_iconst hB (v := 3) (by decide +kernel : decode code 930 = .ok (.iconst 3, 1)) (by decide +kernel) ?_
  refine r_iadd hB (by decide +kernel : decode code 931 = .ok (.iadd, 1)) ?_
  refine r_sld hB hX hsa hb (in_L 3 3 rfl (by decide) hk hL) (by decide +kernel : decode code 932 = .ok (.iaload, 1)) ?_
  refine r_cVi (R := (v, M p1 z1 l1)) (K := some) (F := f_X11_frame 0 (sv (nI k + 1).toNatClampNeg) (sv (nI k + 2).toNatClampNeg) (sv (nI k + 3).toNatClampNeg) (M p z l)) hB [.int (sv (nI k + 1).toNatClampNeg), .int (sv (nI k + 2).toNatClampNeg), .int (sv (nI k + 3).toNatClampNeg)] [] cf11 (own := "PulseRemoteLaw") rfl cmX11_frame imX11_frame (Or.inl k_952) (by decide) rfl rfl rfl (Nat.le_of_ble_eq_true rfl) (by decide +kernel : decode code 933 = .ok (.invokevirtual 111, 3)) (fun z hz => m_X11_frame _ _ _ _ hz) rfl (isO_X h1) (fun w hw => ?_)
  obtain rfl := Option.some.inj hw
  refine r_aload_n hB 2 rfl (by decide +kernel : decode code 936 = .ok (.aload_n 2, 1)) rfl ?_
  refine r_aload_n hB 0 rfl (by decide +kernel : decode code 937 = .ok (.aload_n 0, 1)) rfl ?_
  refine r_iload_n hB 3 rfl (by decide +kernel : decode code 938 = .ok (.iload_n 3, 1)) rfl ?_
  refine r_iconst hB (v := 1) (by decide +kernel : decode code 939 = .ok (.iconst 1, 1)) (by decide +kernel) ?_
  refine r_iadd hB (by decide +kernel : decode code 940 = .ok (.iadd, 1)) ?_
  refine r_sld hB hX hsa hb (in_L 1 1 rfl (by decide) hk hL) (by decide +kernel : decode code 941 = .ok (.iaload, 1)) ?_
  refine r_aload_n hB 0 rfl (by decide +kernel : decode code 942 = .ok (.aload_n 0, 1)) rfl ?_
  refine r_iload_n hB 3 rfl (by decide +kernel : decode code 943 = .ok (.iload_n 3, 1)) rfl ?_
  refine r_iconst hB (v := 2) (by decide +kernel : decode code 944 = .ok (.iconst 2, 1)) (by decide +kernel) ?_
  refine r_iadd hB (by decide +kernel : decode code 945 = .ok (.iadd, 1)) ?_
  refine r_sld hB hX hsa hb (in_L 2 2 rfl (by decide) hk hL) (by decide +kernel : decode code 946 = .ok (.iaload, 1)) ?_
  refine r_aload_n hB 0 rfl (by decide +kernel : decode code 947 = .ok (.aload_n 0, 1)) rfl ?_
  refine r_iload_n hB 3 rfl (by decide +kernel : decode code 948 = .ok (.iload_n 3, 1)) rfl ?_
  refine r_iconst hB (v := 3) (by decide +kernel : decode code 949 = .ok (.iconst 3, 1)) (by decide +kernel) ?_
  refine r_iadd hB (by decide +kernel : decode code 950 = .ok (.iadd, 1)) ?_
  refine r_sld hB hX hsa hb (in_L 3 3 rfl (by decide) hk hL) (by decide +kernel : decode code 951 = .ok (.iaload, 1)) ?_
  refine r_cVi (R := (v, M p' z' l')) (K := some) (F := f_X12_frame 189 (sv (nI k + 1).toNatClampNeg) (sv (nI k + 2).toNatClampNeg) (sv (nI k + 3).toNatClampNeg) (M p1 z1 l1)) hB [.int (sv (nI k + 1).toNatClampNeg), .int (sv (nI k + 2).toNatClampNeg), .int (sv (nI k + 3).toNatClampNeg)] [.int v] cf12 (own := "PulseRemoteLaw") rfl cmX12_frame imX12_frame (Or.inl k_1448) (by decide) rfl rfl rfl (Nat.le_of_ble_eq_true rfl) (by decide +kernel : decode code 952 = .ok (.invokevirtual 114, 3)) (fun z hz => m_X12_frame _ _ _ _ hz) rfl (isO_Q h2) (fun w hw => ?_)
  obtain rfl := Option.some.inj hw
  exact r_icmp_eq (A := some ()) (B := none) (R := ()) hB (tgt := 1184) (by decide +kernel : decode code 955 = .ok (.if_icmp .eq 229, 3)) (by decide) (if_pos rfl) (fun _ _ => K) (fun h _ => absurd rfl h)
set_option maxHeartbeats 4000000 in
set_option maxRecDepth 100000 in
theorem op_24 {X : BX} {D : va_G} {cy : Nat → ClassId} {b sa L : Nat} {sv : Nat → Int32} (hL : LW X D cy b sa L sv) {k : Nat} (hk : k + 7 ≤ L) {p : Nat → Nat} {z l : Nat → Int → Int} (hJ : RJ p z) : OpL X D cy b sa k 960 p z l := by
  obtain ⟨hB, hX, hsa, hb, hL⟩ := hL
  obtain ⟨v, p1, z1, l1, p', z', l', h1, h2, h4⟩ := JT_get (l := l) (j_deviation (sv (nI k + 1).toNatClampNeg) (sv (nI k + 2).toNatClampNeg)) hJ
  refine ⟨p', z', l', h4, fun r μ' K => ?_⟩
  refine r_aload_n hB 1 rfl (by decide +kernel : decode code 960 = .ok (.aload_n 1, 1)) rfl ?_
  refine r_aload_n hB 0 rfl (by decide +kernel : decode code 961 = .ok (.aload_n 0, 1)) rfl ?_
  refine r_iload_n hB 3 rfl (by decide +kernel : decode code 962 = .ok (.iload_n 3, 1)) rfl ?_
  refine r_iconst hB (v := 1) (by decide +kernel : decode code 963 = .ok (.iconst 1, 1)) (by decide +kernel) ?_
  refine r_iadd hB (by decide +kernel : decode code 964 = .ok (.iadd, 1)) ?_
  refine r_sld hB hX hsa hb (in_L 1 1 rfl (by decide) hk hL) (by decide +kernel : decode code 965 = .ok (.iaload, 1)) ?_
  refine r_aload_n hB 0 rfl (by decide +kernel : decode code 966 = .ok (.aload_n 0, 1)) rfl ?_
  refine r_iload_n hB 3 rfl (by decide +kernel : decode code 967 = .ok (.iload_n 3, 1)) rfl ?_
  refine r_iconst hB (v := 2) (by decide +kernel : decode code 968 = .ok (.iconst 2, 1)) (by decide +kernel) ?_
  refine r_iadd hB (by decide +kernel : decode code 969 = .ok (.iadd, 1)) ?_
  refine r_sld hB hX hsa hb (in_L 2 2 rfl (by decide) hk hL) (by decide +kernel : decode code 970 = .ok (.iaload, 1)) ?_
  refine r_cVi (R := (v, M p1 z1 l1)) (K := some) (F := f_X11_deviation 0 (sv (nI k + 1).toNatClampNeg) (sv (nI k + 2).toNatClampNeg) (M p z l)) hB [.int (sv (nI k + 1).toNatClampNeg), .int (sv (nI k + 2).toNatClampNeg)] [] cf11 (own := "PulseRemoteLaw") rfl cmX11_deviation imX11_deviation (Or.inl k_1009) (by decide) rfl rfl rfl (Nat.le_of_ble_eq_true rfl) (by decide +kernel : decode code 971 = .ok (.invokevirtual 115, 3)) (fun z hz => m_X11_deviation _ _ _ _ hz) rfl (isO_X h1) (fun w hw => ?_)
  obtain rfl := Option.some.inj hw
  refine r_aload_n hB 2 rfl (by decide +kernel : decode code 974 = .ok (.aload_n 2, 1)) rfl ?_
  refine r_aload_n hB 0 rfl (by decide +kernel : decode code 975 = .ok (.aload_n 0, 1)) rfl ?_
  refine r_iload_n hB 3 rfl (by decide +kernel : decode code 976 = .ok (.iload_n 3, 1)) rfl ?_
  refine r_iconst hB (v := 1) (by decide +kernel : decode code 977 = .ok (.iconst 1, 1)) (by decide +kernel) ?_
  refine r_iadd hB (by decide +kernel : decode code 978 = .ok (.iadd, 1)) ?_
  refine r_sld hB hX hsa hb (in_L 1 1 rfl (by decide) hk hL) (by decide +kernel : decode code 979 = .ok (.iaload, 1)) ?_
  refine r_aload_n hB 0 rfl (by decide +kernel : decode code 980 = .ok (.aload_n 0, 1)) rfl ?_
  refine r_iload_n hB 3 rfl (by decide +kernel : decode code 981 = .ok (.iload_n 3, 1)) rfl ?_
  refine r_iconst hB (v := 2) (by decide +kernel : decode code 982 = .ok (.iconst 2, 1)) (by decide +kernel) ?_
  refine r_iadd hB (by decide +kernel : decode code 983 = .ok (.iadd, 1)) ?_
  refine r_sld hB hX hsa hb (in_L 2 2 rfl (by decide) hk hL) (by decide +kernel : decode code 984 = .ok (.iaload, 1)) ?_
  refine r_cVi (R := (v, M p' z' l')) (K := some) (F := f_X12_deviation 189 (sv (nI k + 1).toNatClampNeg) (sv (nI k + 2).toNatClampNeg) (M p1 z1 l1)) hB [.int (sv (nI k + 1).toNatClampNeg), .int (sv (nI k + 2).toNatClampNeg)] [.int v] cf12 (own := "PulseRemoteLaw") rfl cmX12_deviation imX12_deviation (Or.inl k_1496) (by decide) rfl rfl rfl (Nat.le_of_ble_eq_true rfl) (by decide +kernel : decode code 985 = .ok (.invokevirtual 118, 3)) (fun z hz => m_X12_deviation _ _ _ _ hz) rfl (isO_Q h2) (fun w hw => ?_)
  obtain rfl := Option.some.inj hw
  exact r_icmp_eq (A := some ()) (B := none) (R := ()) hB (tgt := 1184) (by decide +kernel : decode code 988 = .ok (.if_icmp .eq 196, 3)) (by decide) (if_pos rfl) (fun _ _ => K) (fun h _ => absurd rfl h)
set_option maxHeartbeats 4000000 in
set_option maxRecDepth 100000 in
theorem op_25 {X : BX} {D : va_G} {cy : Nat → ClassId} {b sa L : Nat} {sv : Nat → Int32} (hL : LW X D cy b sa L sv) {k : Nat} (hk : k + 7 ≤ L) {p : Nat → Nat} {z l : Nat → Int → Int} (hJ : RJ p z) : OpL X D cy b sa k 993 p z l := by
  obtain ⟨hB, hX, hsa, hb, hL⟩ := hL
  obtain ⟨v, p1, z1, l1, p', z', l', h1, h2, h4⟩ := JT_get (l := l) (j_pressCount (sv (nI k + 1).toNatClampNeg)) hJ
  refine ⟨p', z', l', h4, fun r μ' K => ?_⟩
  refine r_aload_n hB 1 rfl (by decide +kernel : decode code 993 = .ok (.aload_n 1, 1)) rfl ?_
  refine r_aload_n hB 0 rfl (by decide +kernel : decode code 994 = .ok (.aload_n 0, 1)) rfl ?_
  refine r_iload_n hB 3 rfl (by decide +kernel : decode code 995 = .ok (.iload_n 3, 1)) rfl ?_
  refine r_iconst hB (v := 1) (by decide +kernel : decode code 996 = .ok (.iconst 1, 1)) (by decide +kernel) ?_
  refine r_iadd hB (by decide +kernel : decode code 997 = .ok (.iadd, 1)) ?_
  refine r_sld hB hX hsa hb (in_L 1 1 rfl (by decide) hk hL) (by decide +kernel : decode code 998 = .ok (.iaload, 1)) ?_
  refine r_cVi (R := (v, M p1 z1 l1)) (K := some) (F := f_X11_pressCount 0 (sv (nI k + 1).toNatClampNeg) (M p z l)) hB [.int (sv (nI k + 1).toNatClampNeg)] [] cf11 (own := "PulseRemoteLaw") rfl cmX11_pressCount imX11_pressCount (Or.inl k_1022) (by decide) rfl rfl rfl (Nat.le_of_ble_eq_true rfl) (by decide +kernel : decode code 999 = .ok (.invokevirtual 119, 3)) (fun z hz => m_X11_pressCount _ _ _ _ hz) rfl (isO_X h1) (fun w hw => ?_)
  obtain rfl := Option.some.inj hw
  refine r_aload_n hB 2 rfl (by decide +kernel : decode code 1002 = .ok (.aload_n 2, 1)) rfl ?_
  refine r_aload_n hB 0 rfl (by decide +kernel : decode code 1003 = .ok (.aload_n 0, 1)) rfl ?_
  refine r_iload_n hB 3 rfl (by decide +kernel : decode code 1004 = .ok (.iload_n 3, 1)) rfl ?_
  refine r_iconst hB (v := 1) (by decide +kernel : decode code 1005 = .ok (.iconst 1, 1)) (by decide +kernel) ?_
  refine r_iadd hB (by decide +kernel : decode code 1006 = .ok (.iadd, 1)) ?_
  refine r_sld hB hX hsa hb (in_L 1 1 rfl (by decide) hk hL) (by decide +kernel : decode code 1007 = .ok (.iaload, 1)) ?_
  refine r_cVi (R := (v, M p' z' l')) (K := some) (F := f_X12_pressCount 189 (sv (nI k + 1).toNatClampNeg) (M p1 z1 l1)) hB [.int (sv (nI k + 1).toNatClampNeg)] [.int v] cf12 (own := "PulseRemoteLaw") rfl cmX12_pressCount imX12_pressCount (Or.inl k_1501) (by decide) rfl rfl rfl (Nat.le_of_ble_eq_true rfl) (by decide +kernel : decode code 1008 = .ok (.invokevirtual 122, 3)) (fun z hz => m_X12_pressCount _ _ _ _ hz) rfl (isO_Q h2) (fun w hw => ?_)
  obtain rfl := Option.some.inj hw
  exact r_icmp_eq (A := some ()) (B := none) (R := ()) hB (tgt := 1184) (by decide +kernel : decode code 1011 = .ok (.if_icmp .eq 173, 3)) (by decide) (if_pos rfl) (fun _ _ => K) (fun h _ => absurd rfl h)
set_option maxHeartbeats 4000000 in
set_option maxRecDepth 100000 in
theorem op_26 {X : BX} {D : va_G} {cy : Nat → ClassId} {b sa L : Nat} {sv : Nat → Int32} (hL : LW X D cy b sa L sv) {k : Nat} (hk : k + 7 ≤ L) {p : Nat → Nat} {z l : Nat → Int → Int} (hJ : RJ p z) : OpL X D cy b sa k 1016 p z l := by
  obtain ⟨hB, hX, hsa, hb, hL⟩ := hL
  obtain ⟨v, p1, z1, l1, p', z', l', h1, h2, h4⟩ := JT_get (l := l) (j_press (sv (nI k + 1).toNatClampNeg) (sv (nI k + 2).toNatClampNeg) (sv (nI k + 3).toNatClampNeg)) hJ
  refine ⟨p', z', l', h4, fun r μ' K => ?_⟩
  refine r_aload_n hB 1 rfl (by decide +kernel : decode code 1016 = .ok (.aload_n 1, 1)) rfl ?_
  refine r_aload_n hB 0 rfl (by decide +kernel : decode code 1017 = .ok (.aload_n 0, 1)) rfl ?_
  refine r_iload_n hB 3 rfl (by decide +kernel : decode code 1018 = .ok (.iload_n 3, 1)) rfl ?_
  refine r_iconst hB (v := 1) (by decide +kernel : decode code 1019 = .ok (.iconst 1, 1)) (by decide +kernel) ?_
  refine r_iadd hB (by decide +kernel : decode code 1020 = .ok (.iadd, 1)) ?_
  refine r_sld hB hX hsa hb (in_L 1 1 rfl (by decide) hk hL) (by decide +kernel : decode code 1021 = .ok (.iaload, 1)) ?_
  refine r_aload_n hB 0 rfl (by decide +kernel : decode code 1022 = .ok (.aload_n 0, 1)) rfl ?_
  refine r_iload_n hB 3 rfl (by decide +kernel : decode code 1023 = .ok (.iload_n 3, 1)) rfl ?_
  refine r_iconst hB (v := 2) (by decide +kernel : decode code 1024 = .ok (.iconst 2, 1)) (by decide +kernel) ?_
  refine r_iadd hB (by decide +kernel : decode code 1025 = .ok (.iadd, 1)) ?_
  refine r_sld hB hX hsa hb (in_L 2 2 rfl (by decide) hk hL) (by decide +kernel : decode code 1026 = .ok (.iaload, 1)) ?_
  refine r_aload_n hB 0 rfl (by decide +kernel : decode code 1027 = .ok (.aload_n 0, 1)) rfl ?_
  refine r_iload_n hB 3 rfl (by decide +kernel : decode code 1028 = .ok (.iload_n 3, 1)) rfl ?_
  refine r_iconst hB (v := 3) (by decide +kernel : decode code 1029 = .ok (.iconst 3, 1)) (by decide +kernel) ?_
  refine r_iadd hB (by decide +kernel : decode code 1030 = .ok (.iadd, 1)) ?_
  refine r_sld hB hX hsa hb (in_L 3 3 rfl (by decide) hk hL) (by decide +kernel : decode code 1031 = .ok (.iaload, 1)) ?_
  refine r_cVi (R := (v, M p1 z1 l1)) (K := some) (F := f_X11_press 0 (sv (nI k + 1).toNatClampNeg) (sv (nI k + 2).toNatClampNeg) (sv (nI k + 3).toNatClampNeg) (M p z l)) hB [.int (sv (nI k + 1).toNatClampNeg), .int (sv (nI k + 2).toNatClampNeg), .int (sv (nI k + 3).toNatClampNeg)] [] cf11 (own := "PulseRemoteLaw") rfl cmX11_press imX11_press (Or.inl k_1052) (by decide) rfl rfl rfl (Nat.le_of_ble_eq_true rfl) (by decide +kernel : decode code 1032 = .ok (.invokevirtual 123, 3)) (fun z hz => m_X11_press _ _ _ _ hz) rfl (isO_X h1) (fun w hw => ?_)
  obtain rfl := Option.some.inj hw
  refine r_aload_n hB 2 rfl (by decide +kernel : decode code 1035 = .ok (.aload_n 2, 1)) rfl ?_
  refine r_aload_n hB 0 rfl (by decide +kernel : decode code 1036 = .ok (.aload_n 0, 1)) rfl ?_
  refine r_iload_n hB 3 rfl (by decide +kernel : decode code 1037 = .ok (.iload_n 3, 1)) rfl ?_
  refine r_iconst hB (v := 1) (by decide +kernel : decode code 1038 = .ok (.iconst 1, 1)) (by decide +kernel) ?_
  refine r_iadd hB (by decide +kernel : decode code 1039 = .ok (.iadd, 1)) ?_
  refine r_sld hB hX hsa hb (in_L 1 1 rfl (by decide) hk hL) (by decide +kernel : decode code 1040 = .ok (.iaload, 1)) ?_
  refine r_aload_n hB 0 rfl (by decide +kernel : decode code 1041 = .ok (.aload_n 0, 1)) rfl ?_
  refine r_iload_n hB 3 rfl (by decide +kernel : decode code 1042 = .ok (.iload_n 3, 1)) rfl ?_
  refine r_iconst hB (v := 2) (by decide +kernel : decode code 1043 = .ok (.iconst 2, 1)) (by decide +kernel) ?_
  refine r_iadd hB (by decide +kernel : decode code 1044 = .ok (.iadd, 1)) ?_
  refine r_sld hB hX hsa hb (in_L 2 2 rfl (by decide) hk hL) (by decide +kernel : decode code 1045 = .ok (.iaload, 1)) ?_
  refine r_aload_n hB 0 rfl (by decide +kernel : decode code 1046 = .ok (.aload_n 0, 1)) rfl ?_
  refine r_iload_n hB 3 rfl (by decide +kernel : decode code 1047 = .ok (.iload_n 3, 1)) rfl ?_
  refine r_iconst hB (v := 3) (by decide +kernel : decode code 1048 = .ok (.iconst 3, 1)) (by decide +kernel) ?_
  refine r_iadd hB (by decide +kernel : decode code 1049 = .ok (.iadd, 1)) ?_
  refine r_sld hB hX hsa hb (in_L 3 3 rfl (by decide) hk hL) (by decide +kernel : decode code 1050 = .ok (.iaload, 1)) ?_
  refine r_cVi (R := (v, M p' z' l')) (K := some) (F := f_X12_press 189 (sv (nI k + 1).toNatClampNeg) (sv (nI k + 2).toNatClampNeg) (sv (nI k + 3).toNatClampNeg) (M p1 z1 l1)) hB [.int (sv (nI k + 1).toNatClampNeg), .int (sv (nI k + 2).toNatClampNeg), .int (sv (nI k + 3).toNatClampNeg)] [.int v] cf12 (own := "PulseRemoteLaw") rfl cmX12_press imX12_press (Or.inl k_1509) (by decide) rfl rfl rfl (Nat.le_of_ble_eq_true rfl) (by decide +kernel : decode code 1051 = .ok (.invokevirtual 126, 3)) (fun z hz => m_X12_press _ _ _ _ hz) rfl (isO_Q h2) (fun w hw => ?_)
  obtain rfl := Option.some.inj hw
  exact r_icmp_eq (A := some ()) (B := none) (R := ()) hB (tgt := 1184) (by decide +kernel : decode code 1054 = .ok (.if_icmp .eq 130, 3)) (by decide) (if_pos rfl) (fun _ _ => K) (fun h _ => absurd rfl h)
set_option maxHeartbeats 4000000 in
set_option maxRecDepth 100000 in
theorem op_27 {X : BX} {D : va_G} {cy : Nat → ClassId} {b sa L : Nat} {sv : Nat → Int32} (hL : LW X D cy b sa L sv) {k : Nat} (hk : k + 7 ≤ L) {p : Nat → Nat} {z l : Nat → Int → Int} (hJ : RJ p z) : OpL X D cy b sa k 1059 p z l := by
  obtain ⟨hB, hX, hsa, hb, hL⟩ := hL
  obtain ⟨v, p1, z1, l1, p', z', l', h1, h2, h4⟩ := JT_get (l := l) (j_strayCount (sv (nI k + 1).toNatClampNeg)) hJ
  refine ⟨p', z', l', h4, fun r μ' K => ?_⟩
  refine r_aload_n hB 1 rfl (by decide +kernel : decode code 1059 = .ok (.aload_n 1, 1)) rfl ?_
  refine r_aload_n hB 0 rfl (by decide +kernel : decode code 1060 = .ok (.aload_n 0, 1)) rfl ?_
  refine r_iload_n hB 3 rfl (by decide +kernel : decode code 1061 = .ok (.iload_n 3, 1)) rfl ?_
  refine r_iconst hB (v := 1) (by decide +kernel : decode code 1062 = .ok (.iconst 1, 1)) (by decide +kernel) ?_
  refine r_iadd hB (by decide +kernel : decode code 1063 = .ok (.iadd, 1)) ?_
  refine r_sld hB hX hsa hb (in_L 1 1 rfl (by decide) hk hL) (by decide +kernel : decode code 1064 = .ok (.iaload, 1)) ?_
  refine r_cVi (R := (v, M p1 z1 l1)) (K := some) (F := f_X11_strayCount 0 (sv (nI k + 1).toNatClampNeg) (M p z l)) hB [.int (sv (nI k + 1).toNatClampNeg)] [] cf11 (own := "PulseRemoteLaw") rfl cmX11_strayCount imX11_strayCount (Or.inl k_1062) (by decide) rfl rfl rfl (Nat.le_of_ble_eq_true rfl) (by decide +kernel : decode code 1065 = .ok (.invokevirtual 127, 3)) (fun z hz => m_X11_strayCount _ _ _ _ hz) rfl (isO_X h1) (fun w hw => ?_)
  obtain rfl := Option.some.inj hw
  refine r_aload_n hB 2 rfl (by decide +kernel : decode code 1068 = .ok (.aload_n 2, 1)) rfl ?_
  refine r_aload_n hB 0 rfl (by decide +kernel : decode code 1069 = .ok (.aload_n 0, 1)) rfl ?_
  refine r_iload_n hB 3 rfl (by decide +kernel : decode code 1070 = .ok (.iload_n 3, 1)) rfl ?_
  refine r_iconst hB (v := 1) (by decide +kernel : decode code 1071 = .ok (.iconst 1, 1)) (by decide +kernel) ?_
  refine r_iadd hB (by decide +kernel : decode code 1072 = .ok (.iadd, 1)) ?_
  refine r_sld hB hX hsa hb (in_L 1 1 rfl (by decide) hk hL) (by decide +kernel : decode code 1073 = .ok (.iaload, 1)) ?_
  refine r_cVi (R := (v, M p' z' l')) (K := some) (F := f_X12_strayCount 189 (sv (nI k + 1).toNatClampNeg) (M p1 z1 l1)) hB [.int (sv (nI k + 1).toNatClampNeg)] [.int v] cf12 (own := "PulseRemoteLaw") rfl cmX12_strayCount imX12_strayCount (Or.inl k_1513) (by decide) rfl rfl rfl (Nat.le_of_ble_eq_true rfl) (by decide +kernel : decode code 1074 = .ok (.invokevirtual 130, 3)) (fun z hz => m_X12_strayCount _ _ _ _ hz) rfl (isO_Q h2) (fun w hw => ?_)
  obtain rfl := Option.some.inj hw
  exact r_icmp_eq (A := some ()) (B := none) (R := ()) hB (tgt := 1184) (by decide +kernel : decode code 1077 = .ok (.if_icmp .eq 107, 3)) (by decide) (if_pos rfl) (fun _ _ => K) (fun h _ => absurd rfl h)
set_option maxHeartbeats 4000000 in
set_option maxRecDepth 100000 in
theorem op_28 {X : BX} {D : va_G} {cy : Nat → ClassId} {b sa L : Nat} {sv : Nat → Int32} (hL : LW X D cy b sa L sv) {k : Nat} (hk : k + 7 ≤ L) {p : Nat → Nat} {z l : Nat → Int → Int} (hJ : RJ p z) : OpL X D cy b sa k 1082 p z l := by
  obtain ⟨hB, hX, hsa, hb, hL⟩ := hL
  obtain ⟨v, p1, z1, l1, p', z', l', h1, h2, h4⟩ := JT_get (l := l) (j_needed (sv (nI k + 1).toNatClampNeg)) hJ
  refine ⟨p', z', l', h4, fun r μ' K => ?_⟩
  refine r_aload_n hB 1 rfl (by decide +kernel : decode code 1082 = .ok (.aload_n 1, 1)) rfl ?_
  refine r_aload_n hB 0 rfl (by decide +kernel : decode code 1083 = .ok (.aload_n 0, 1)) rfl ?_
  refine r_iload_n hB 3 rfl (by decide +kernel : decode code 1084 = .ok (.iload_n 3, 1)) rfl ?_
  refine r_iconst hB (v := 1) (by decide +kernel : decode code 1085 = .ok (.iconst 1, 1)) (by decide +kernel) ?_
  refine r_iadd hB (by decide +kernel : decode code 1086 = .ok (.iadd, 1)) ?_
  refine r_sld hB hX hsa hb (in_L 1 1 rfl (by decide) hk hL) (by decide +kernel : decode code 1087 = .ok (.iaload, 1)) ?_
  refine r_cVi (R := (v, M p1 z1 l1)) (K := some) (F := f_X11_neededTolerance 0 (sv (nI k + 1).toNatClampNeg) (M p z l)) hB [.int (sv (nI k + 1).toNatClampNeg)] [] cf11 (own := "PulseRemoteLaw") rfl cmX11_neededTolerance imX11_neededTolerance (Or.inl k_1066) (by decide) rfl rfl rfl (Nat.le_of_ble_eq_true rfl) (by decide +kernel : decode code 1088 = .ok (.invokevirtual 131, 3)) (fun z hz => m_X11_neededTolerance _ _ _ _ hz) rfl (isO_X h1) (fun w hw => ?_)
  obtain rfl := Option.some.inj hw
  refine r_aload_n hB 2 rfl (by decide +kernel : decode code 1091 = .ok (.aload_n 2, 1)) rfl ?_
  refine r_aload_n hB 0 rfl (by decide +kernel : decode code 1092 = .ok (.aload_n 0, 1)) rfl ?_
  refine r_iload_n hB 3 rfl (by decide +kernel : decode code 1093 = .ok (.iload_n 3, 1)) rfl ?_
  refine r_iconst hB (v := 1) (by decide +kernel : decode code 1094 = .ok (.iconst 1, 1)) (by decide +kernel) ?_
  refine r_iadd hB (by decide +kernel : decode code 1095 = .ok (.iadd, 1)) ?_
  refine r_sld hB hX hsa hb (in_L 1 1 rfl (by decide) hk hL) (by decide +kernel : decode code 1096 = .ok (.iaload, 1)) ?_
  refine r_cVi (R := (v, M p' z' l')) (K := some) (F := f_X12_neededTolerance 189 (sv (nI k + 1).toNatClampNeg) (M p1 z1 l1)) hB [.int (sv (nI k + 1).toNatClampNeg)] [.int v] cf12 (own := "PulseRemoteLaw") rfl cmX12_neededTolerance imX12_neededTolerance (Or.inl k_1517) (by decide) rfl rfl rfl (Nat.le_of_ble_eq_true rfl) (by decide +kernel : decode code 1097 = .ok (.invokevirtual 134, 3)) (fun z hz => m_X12_neededTolerance _ _ _ _ hz) rfl (isO_Q h2) (fun w hw => ?_)
  obtain rfl := Option.some.inj hw
  exact r_icmp_eq (A := some ()) (B := none) (R := ()) hB (tgt := 1184) (by decide +kernel : decode code 1100 = .ok (.if_icmp .eq 84, 3)) (by decide) (if_pos rfl) (fun _ _ => K) (fun h _ => absurd rfl h)
set_option maxHeartbeats 4000000 in
set_option maxRecDepth 100000 in
theorem op_29 {X : BX} {D : va_G} {cy : Nat → ClassId} {b sa L : Nat} {sv : Nat → Int32} (hL : LW X D cy b sa L sv) {k : Nat} (hk : k + 7 ≤ L) {p : Nat → Nat} {z l : Nat → Int → Int} (hJ : RJ p z) : OpL X D cy b sa k 1105 p z l := by
  obtain ⟨hB, hX, hsa, hb, hL⟩ := hL
  obtain ⟨v, p1, z1, l1, p', z', l', h1, h2, h4⟩ := JT_get (l := l) (j_explain (sv (nI k + 1).toNatClampNeg) (sv (nI k + 2).toNatClampNeg) (sv (nI k + 3).toNatClampNeg)) hJ
  refine ⟨p', z', l', h4, fun r μ' K => ?_⟩
  refine r_aload_n hB 1 rfl (by decide +kernel : decode code 1105 = .ok (.aload_n 1, 1)) rfl ?_
  refine r_aload_n hB 0 rfl (by decide +kernel : decode code 1106 = .ok (.aload_n 0, 1)) rfl ?_
  refine r_iload_n hB 3 rfl (by decide +kernel : decode code 1107 = .ok (.iload_n 3, 1)) rfl ?_
  refine r_iconst hB (v := 1) (by decide +kernel : decode code 1108 = .ok (.iconst 1, 1)) (by decide +kernel) ?_
  refine r_iadd hB (by decide +kernel : decode code 1109 = .ok (.iadd, 1)) ?_
  refine r_sld hB hX hsa hb (in_L 1 1 rfl (by decide) hk hL) (by decide +kernel : decode code 1110 = .ok (.iaload, 1)) ?_
  refine r_aload_n hB 0 rfl (by decide +kernel : decode code 1111 = .ok (.aload_n 0, 1)) rfl ?_
  refine r_iload_n hB 3 rfl (by decide +kernel : decode code 1112 = .ok (.iload_n 3, 1)) rfl ?_
  refine r_iconst hB (v := 2) (by decide +kernel : decode code 1113 = .ok (.iconst 2, 1)) (by decide +kernel) ?_
  refine r_iadd hB (by decide +kernel : decode code 1114 = .ok (.iadd, 1)) ?_
  refine r_sld hB hX hsa hb (in_L 2 2 rfl (by decide) hk hL) (by decide +kernel : decode code 1115 = .ok (.iaload, 1)) ?_
  refine r_aload_n hB 0 rfl (by decide +kernel : decode code 1116 = .ok (.aload_n 0, 1)) rfl ?_
  refine r_iload_n hB 3 rfl (by decide +kernel : decode code 1117 = .ok (.iload_n 3, 1)) rfl ?_
  refine r_iconst hB (v := 3) (by decide +kernel : decode code 1118 = .ok (.iconst 3, 1)) (by decide +kernel) ?_
  refine r_iadd hB (by decide +kernel : decode code 1119 = .ok (.iadd, 1)) ?_
  refine r_sld hB hX hsa hb (in_L 3 3 rfl (by decide) hk hL) (by decide +kernel : decode code 1120 = .ok (.iaload, 1)) ?_
  refine r_cVi (R := (v, M p1 z1 l1)) (K := some) (F := f_X11_explain 0 (sv (nI k + 1).toNatClampNeg) (sv (nI k + 2).toNatClampNeg) (sv (nI k + 3).toNatClampNeg) (M p z l)) hB [.int (sv (nI k + 1).toNatClampNeg), .int (sv (nI k + 2).toNatClampNeg), .int (sv (nI k + 3).toNatClampNeg)] [] cf11 (own := "PulseRemoteLaw") rfl cmX11_explain imX11_explain (Or.inl k_1074) (by decide) rfl rfl rfl (Nat.le_of_ble_eq_true rfl) (by decide +kernel : decode code 1121 = .ok (.invokevirtual 135, 3)) (fun z hz => m_X11_explain _ _ _ _ hz) rfl (isO_X h1) (fun w hw => ?_)
  obtain rfl := Option.some.inj hw
  refine r_aload_n hB 2 rfl (by decide +kernel : decode code 1124 = .ok (.aload_n 2, 1)) rfl ?_
  refine r_aload_n hB 0 rfl (by decide +kernel : decode code 1125 = .ok (.aload_n 0, 1)) rfl ?_
  refine r_iload_n hB 3 rfl (by decide +kernel : decode code 1126 = .ok (.iload_n 3, 1)) rfl ?_
  refine r_iconst hB (v := 1) (by decide +kernel : decode code 1127 = .ok (.iconst 1, 1)) (by decide +kernel) ?_
  refine r_iadd hB (by decide +kernel : decode code 1128 = .ok (.iadd, 1)) ?_
  refine r_sld hB hX hsa hb (in_L 1 1 rfl (by decide) hk hL) (by decide +kernel : decode code 1129 = .ok (.iaload, 1)) ?_
  refine r_aload_n hB 0 rfl (by decide +kernel : decode code 1130 = .ok (.aload_n 0, 1)) rfl ?_
  refine r_iload_n hB 3 rfl (by decide +kernel : decode code 1131 = .ok (.iload_n 3, 1)) rfl ?_
  refine r_iconst hB (v := 2) (by decide +kernel : decode code 1132 = .ok (.iconst 2, 1)) (by decide +kernel) ?_
  refine r_iadd hB (by decide +kernel : decode code 1133 = .ok (.iadd, 1)) ?_
  refine r_sld hB hX hsa hb (in_L 2 2 rfl (by decide) hk hL) (by decide +kernel : decode code 1134 = .ok (.iaload, 1)) ?_
  refine r_aload_n hB 0 rfl (by decide +kernel : decode code 1135 = .ok (.aload_n 0, 1)) rfl ?_
  refine r_iload_n hB 3 rfl (by decide +kernel : decode code 1136 = .ok (.iload_n 3, 1)) rfl ?_
  refine r_iconst hB (v := 3) (by decide +kernel : decode code 1137 = .ok (.iconst 3, 1)) (by decide +kernel) ?_
  refine r_iadd hB (by decide +kernel : decode code 1138 = .ok (.iadd, 1)) ?_
  refine r_sld hB hX hsa hb (in_L 3 3 rfl (by decide) hk hL) (by decide +kernel : decode code 1139 = .ok (.iaload, 1)) ?_
  refine r_cVi (R := (v, M p' z' l')) (K := some) (F := f_X12_explain 189 (sv (nI k + 1).toNatClampNeg) (sv (nI k + 2).toNatClampNeg) (sv (nI k + 3).toNatClampNeg) (M p1 z1 l1)) hB [.int (sv (nI k + 1).toNatClampNeg), .int (sv (nI k + 2).toNatClampNeg), .int (sv (nI k + 3).toNatClampNeg)] [.int v] cf12 (own := "PulseRemoteLaw") rfl cmX12_explain imX12_explain (Or.inl k_1537) (by decide) rfl rfl rfl (Nat.le_of_ble_eq_true rfl) (by decide +kernel : decode code 1140 = .ok (.invokevirtual 138, 3)) (fun z hz => m_X12_explain _ _ _ _ hz) rfl (isO_Q h2) (fun w hw => ?_)
  obtain rfl := Option.some.inj hw
  exact r_icmp_eq (A := some ()) (B := none) (R := ()) hB (tgt := 1184) (by decide +kernel : decode code 1143 = .ok (.if_icmp .eq 41, 3)) (by decide) (if_pos rfl) (fun _ _ => K) (fun h _ => absurd rfl h)
set_option maxHeartbeats 4000000 in
set_option maxRecDepth 100000 in
theorem op_30 {X : BX} {D : va_G} {cy : Nat → ClassId} {b sa L : Nat} {sv : Nat → Int32} (hL : LW X D cy b sa L sv) {k : Nat} (hk : k + 7 ≤ L) {p : Nat → Nat} {z l : Nat → Int → Int} (hJ : RJ p z) : OpL X D cy b sa k 1148 p z l := by
  obtain ⟨hB, hX, hsa, hb, hL⟩ := hL
  obtain ⟨v, p1, z1, l1, p', z', l', h1, h2, h4⟩ := JT_get (l := l) (j_ghosts (sv (nI k + 1).toNatClampNeg)) hJ
  refine ⟨p', z', l', h4, fun r μ' K => ?_⟩
  refine r_aload_n hB 1 rfl (by decide +kernel : decode code 1148 = .ok (.aload_n 1, 1)) rfl ?_
  refine r_aload_n hB 0 rfl (by decide +kernel : decode code 1149 = .ok (.aload_n 0, 1)) rfl ?_
  refine r_iload_n hB 3 rfl (by decide +kernel : decode code 1150 = .ok (.iload_n 3, 1)) rfl ?_
  refine r_iconst hB (v := 1) (by decide +kernel : decode code 1151 = .ok (.iconst 1, 1)) (by decide +kernel) ?_
  refine r_iadd hB (by decide +kernel : decode code 1152 = .ok (.iadd, 1)) ?_
  refine r_sld hB hX hsa hb (in_L 1 1 rfl (by decide) hk hL) (by decide +kernel : decode code 1153 = .ok (.iaload, 1)) ?_
  refine r_cVi (R := (v, M p1 z1 l1)) (K := some) (F := f_X11_ghosts 0 (sv (nI k + 1).toNatClampNeg) (M p z l)) hB [.int (sv (nI k + 1).toNatClampNeg)] [] cf11 (own := "PulseRemoteLaw") rfl cmX11_ghosts imX11_ghosts (Or.inl k_1096) (by decide) rfl rfl rfl (Nat.le_of_ble_eq_true rfl) (by decide +kernel : decode code 1154 = .ok (.invokevirtual 139, 3)) (fun z hz => m_X11_ghosts _ _ _ _ hz) rfl (isO_X h1) (fun w hw => ?_)
  obtain rfl := Option.some.inj hw
  refine r_aload_n hB 2 rfl (by decide +kernel : decode code 1157 = .ok (.aload_n 2, 1)) rfl ?_
  refine r_aload_n hB 0 rfl (by decide +kernel : decode code 1158 = .ok (.aload_n 0, 1)) rfl ?_
  refine r_iload_n hB 3 rfl (by decide +kernel : decode code 1159 = .ok (.iload_n 3, 1)) rfl ?_
  refine r_iconst hB (v := 1) (by decide +kernel : decode code 1160 = .ok (.iconst 1, 1)) (by decide +kernel) ?_
  refine r_iadd hB (by decide +kernel : decode code 1161 = .ok (.iadd, 1)) ?_
  refine r_sld hB hX hsa hb (in_L 1 1 rfl (by decide) hk hL) (by decide +kernel : decode code 1162 = .ok (.iaload, 1)) ?_
  refine r_cVi (R := (v, M p' z' l')) (K := some) (F := f_X12_ghosts 189 (sv (nI k + 1).toNatClampNeg) (M p1 z1 l1)) hB [.int (sv (nI k + 1).toNatClampNeg)] [.int v] cf12 (own := "PulseRemoteLaw") rfl cmX12_ghosts imX12_ghosts (Or.inl k_1549) (by decide) rfl rfl rfl (Nat.le_of_ble_eq_true rfl) (by decide +kernel : decode code 1163 = .ok (.invokevirtual 142, 3)) (fun z hz => m_X12_ghosts _ _ _ _ hz) rfl (isO_Q h2) (fun w hw => ?_)
  obtain rfl := Option.some.inj hw
  exact r_icmp_eq (A := some ()) (B := none) (R := ()) hB (tgt := 1184) (by decide +kernel : decode code 1166 = .ok (.if_icmp .eq 18, 3)) (by decide) (if_pos rfl) (fun _ _ => K) (fun h _ => absurd rfl h)
set_option maxHeartbeats 4000000 in
set_option maxRecDepth 100000 in
theorem op_31 {X : BX} {D : va_G} {cy : Nat → ClassId} {b sa L : Nat} {sv : Nat → Int32} (hL : LW X D cy b sa L sv) {k : Nat} (hk : k + 7 ≤ L) {p : Nat → Nat} {z l : Nat → Int → Int} (hJ : RJ p z) : OpL X D cy b sa k 1171 p z l := by
  obtain ⟨hB, hX, hsa, hb, hL⟩ := hL
  obtain ⟨v, p1, z1, l1, p', z', l', h1, h2, h4⟩ := JT_get (l := l) (j_undo) hJ
  refine ⟨p', z', l', h4, fun r μ' K => ?_⟩
  refine r_aload_n hB 1 rfl (by decide +kernel : decode code 1171 = .ok (.aload_n 1, 1)) rfl ?_
  refine r_cVi (R := (v, M p1 z1 l1)) (K := some) (F := f_X11_undo 0  (M p z l)) hB [] [] cf11 (own := "PulseRemoteLaw") rfl cmX11_undo imX11_undo (Or.inl k_1104) (by decide) rfl rfl rfl (Nat.le_of_ble_eq_true rfl) (by decide +kernel : decode code 1172 = .ok (.invokevirtual 143, 3)) (fun z hz => m_X11_undo _ _ _ _ hz) rfl (isO_X h1) (fun w hw => ?_)
  obtain rfl := Option.some.inj hw
  refine r_aload_n hB 2 rfl (by decide +kernel : decode code 1175 = .ok (.aload_n 2, 1)) rfl ?_
  refine r_cVi (R := (v, M p' z' l')) (K := some) (F := f_X12_undo 189  (M p1 z1 l1)) hB [] [.int v] cf12 (own := "PulseRemoteLaw") rfl cmX12_undo imX12_undo (Or.inl k_1225) (by decide) rfl rfl rfl (Nat.le_of_ble_eq_true rfl) (by decide +kernel : decode code 1176 = .ok (.invokevirtual 146, 3)) (fun z hz => m_X12_undo _ _ _ _ hz) rfl (isO_Q h2) (fun w hw => ?_)
  obtain rfl := Option.some.inj hw
  exact r_icmp_eq (A := some ()) (B := none) (R := ()) hB (tgt := 1184) (by decide +kernel : decode code 1179 = .ok (.if_icmp .eq 5, 3)) (by decide) (if_pos rfl) (fun _ _ => K) (fun h _ => absurd rfl h)
