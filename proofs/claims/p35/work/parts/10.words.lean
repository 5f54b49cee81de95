/-! THE TABLES' WORDS, by their places -/
theorem k_0 : Cond.selects "PulseRemote" ⟨"PulseRemote", "saveState", "()V"⟩ ⟨"PulseRemote", "saveState", "()V"⟩ ∈ GW := gw_of (List.mem_of_getElem? (i := 0) (by decide +kernel)) rfl
theorem k_1 : Cond.selects "PulseRemote$FrameList" ⟨"PulseRemote$FrameList", "note", "(II)V"⟩ ⟨"PulseRemote$FrameList", "note", "(II)V"⟩ ∈ GW := gw_of (List.mem_of_getElem? (i := 1) (by decide +kernel)) rfl
theorem k_2 : Cond.selects "PulseRemote$Decoder" ⟨"PulseRemote$Decoder", "take", "(LPulseRemote$FrameList;I)Z"⟩ ⟨"PulseRemote$Decoder", "take", "(LPulseRemote$FrameList;I)Z"⟩ ∈ GW := gw_of (List.mem_of_getElem? (i := 2) (by decide +kernel)) rfl
theorem k_3 : Cond.selects "PulseRemote$Decoder" ⟨"PulseRemote$Decoder", "phaseCode", "(LPulseRemote$Protocol;)I"⟩ ⟨"PulseRemote$Decoder", "phaseCode", "(LPulseRemote$Protocol;)I"⟩ ∈ GW := gw_of (List.mem_of_getElem? (i := 3) (by decide +kernel)) rfl
theorem k_4 : Cond.selects "PulseRemote$Decoder" ⟨"PulseRemote$Decoder", "fits", "(II)Z"⟩ ⟨"PulseRemote$Decoder", "fits", "(II)Z"⟩ ∈ GW := gw_of (List.mem_of_getElem? (i := 4) (by decide +kernel)) rfl
theorem k_5 : Cond.selects "PulseRemote$Decoder" ⟨"PulseRemote$Decoder", "placesOf", "(I)J"⟩ ⟨"PulseRemote$Decoder", "placesOf", "(I)J"⟩ ∈ GW := gw_of (List.mem_of_getElem? (i := 5) (by decide +kernel)) rfl
theorem k_6 : Cond.selects "PulseRemote$Decoder" ⟨"PulseRemote$Decoder", "restOfPhaseCode", "(LPulseRemote$Protocol;IJJ)I"⟩ ⟨"PulseRemote$Decoder", "restOfPhaseCode", "(LPulseRemote$Protocol;IJJ)I"⟩ ∈ GW := gw_of (List.mem_of_getElem? (i := 6) (by decide +kernel)) rfl
theorem k_7 : Cond.selects "PulseRemote$Decoder" ⟨"PulseRemote$Decoder", "plainCode", "(LPulseRemote$Protocol;)I"⟩ ⟨"PulseRemote$Decoder", "plainCode", "(LPulseRemote$Protocol;)I"⟩ ∈ GW := gw_of (List.mem_of_getElem? (i := 7) (by decide +kernel)) rfl
theorem k_8 : Cond.selects "PulseRemote$Decoder" ⟨"PulseRemote$Decoder", "protocolOfShortFrame", "(LPulseRemote$Table;)I"⟩ ⟨"PulseRemote$Decoder", "protocolOfShortFrame", "(LPulseRemote$Table;)I"⟩ ∈ GW := gw_of (List.mem_of_getElem? (i := 8) (by decide +kernel)) rfl
theorem k_9 : Cond.selects "PulseRemote$Protocol" ⟨"PulseRemote$Protocol", "writeBit", "(ZILPulseRemote$Train;)V"⟩ ⟨"PulseRemote$Protocol", "writeBit", "(ZILPulseRemote$Train;)V"⟩ ∈ GW := gw_of (List.mem_of_getElem? (i := 9) (by decide +kernel)) rfl
theorem k_10 : Cond.selects "PulseRemote" ⟨"PulseRemote", "worstDeviation", "(ILPulseRemote$Train;)I"⟩ ⟨"PulseRemote", "worstDeviation", "(ILPulseRemote$Train;)I"⟩ ∈ GW := gw_of (List.mem_of_getElem? (i := 10) (by decide +kernel)) rfl
theorem k_11 : Cond.selects "PulseRemote$PressList" ⟨"PulseRemote$PressList", "continuesLatest", "(LPulseRemote$Decoder;LPulseRemote$Table;)Z"⟩ ⟨"PulseRemote$PressList", "continuesLatest", "(LPulseRemote$Decoder;LPulseRemote$Table;)Z"⟩ ∈ GW := gw_of (List.mem_of_getElem? (i := 11) (by decide +kernel)) rfl
theorem k_12 : Cond.selects "PulseRemote$PressList" ⟨"PulseRemote$PressList", "countLatest", "()V"⟩ ⟨"PulseRemote$PressList", "countLatest", "()V"⟩ ∈ GW := gw_of (List.mem_of_getElem? (i := 12) (by decide +kernel)) rfl
theorem k_13 : Cond.selects "PulseRemote$PressList" ⟨"PulseRemote$PressList", "begin", "(LPulseRemote$Decoder;)V"⟩ ⟨"PulseRemote$PressList", "begin", "(LPulseRemote$Decoder;)V"⟩ ∈ GW := gw_of (List.mem_of_getElem? (i := 13) (by decide +kernel)) rfl
theorem k_14 : Cond.selects "PulseRemote" ⟨"PulseRemote", "toleranceFor", "(II)I"⟩ ⟨"PulseRemote", "toleranceFor", "(II)I"⟩ ∈ GW := gw_of (List.mem_of_getElem? (i := 14) (by decide +kernel)) rfl
theorem k_15 : Cond.selects "PulseRemote$Learner" ⟨"PulseRemote$Learner", "insertAll", "(LPulseRemote$FrameList;I)V"⟩ ⟨"PulseRemote$Learner", "insertAll", "(LPulseRemote$FrameList;I)V"⟩ ∈ GW := gw_of (List.mem_of_getElem? (i := 15) (by decide +kernel)) rfl
theorem k_16 : Cond.selects "PulseRemote$Clusters" ⟨"PulseRemote$Clusters", "mean", "(II)I"⟩ ⟨"PulseRemote$Clusters", "mean", "(II)I"⟩ ∈ GW := gw_of (List.mem_of_getElem? (i := 16) (by decide +kernel)) rfl
theorem k_17 : Cond.selects "PulseRemote$Clusters" ⟨"PulseRemote$Clusters", "noteCluster", "(I)V"⟩ ⟨"PulseRemote$Clusters", "noteCluster", "(I)V"⟩ ∈ GW := gw_of (List.mem_of_getElem? (i := 17) (by decide +kernel)) rfl
theorem k_18 : Cond.selects "PulseRemote$Learner" ⟨"PulseRemote$Learner", "makeProtocol", "(IILPulseRemote$Clusters;LPulseRemote$Clusters;)Z"⟩ ⟨"PulseRemote$Learner", "makeProtocol", "(IILPulseRemote$Clusters;LPulseRemote$Clusters;)Z"⟩ ∈ GW := gw_of (List.mem_of_getElem? (i := 18) (by decide +kernel)) rfl
theorem k_19 : Cond.selects "PulseRemote$Collision" ⟨"PulseRemote$Collision", "takeMark", "()V"⟩ ⟨"PulseRemote$Collision", "takeMark", "()V"⟩ ∈ GW := gw_of (List.mem_of_getElem? (i := 19) (by decide +kernel)) rfl
theorem k_20 : Cond.selects "PulseRemote" ⟨"PulseRemote", "appendScratch", "(LPulseRemote$Train;I)I"⟩ ⟨"PulseRemote", "appendScratch", "(LPulseRemote$Train;I)I"⟩ ∈ GW := gw_of (List.mem_of_getElem? (i := 20) (by decide +kernel)) rfl
theorem k_21 : Cond.initialized "PulseRemoteLaw" ∈ GW := gw_of (List.mem_of_getElem? (i := 21) (by decide +kernel)) rfl
theorem k_22 : Cond.initialized "PulseRemote" ∈ GW := gw_of (List.mem_of_getElem? (i := 22) (by decide +kernel)) rfl
theorem k_23 : Cond.initialized "PulseRemote$State" ∈ GW := gw_of (List.mem_of_getElem? (i := 23) (by decide +kernel)) rfl
theorem k_24 : Cond.initialized "PulseRemote$Table" ∈ GW := gw_of (List.mem_of_getElem? (i := 24) (by decide +kernel)) rfl
theorem k_25 : Cond.initialized "PulseRemote$Protocol" ∈ GW := gw_of (List.mem_of_getElem? (i := 25) (by decide +kernel)) rfl
theorem k_26 : Cond.initialized "PulseRemote$Train" ∈ GW := gw_of (List.mem_of_getElem? (i := 26) (by decide +kernel)) rfl
theorem k_28 : Cond.initialized "PulseRemote$FrameList" ∈ GW := gw_of (List.mem_of_getElem? (i := 28) (by decide +kernel)) rfl
theorem k_29 : Cond.initialized "PulseRemote$Decoder" ∈ GW := gw_of (List.mem_of_getElem? (i := 29) (by decide +kernel)) rfl
theorem k_30 : Cond.initialized "PulseRemote$PressList" ∈ GW := gw_of (List.mem_of_getElem? (i := 30) (by decide +kernel)) rfl
theorem k_31 : Cond.initialized "PulseRemote$Learner" ∈ GW := gw_of (List.mem_of_getElem? (i := 31) (by decide +kernel)) rfl
theorem k_32 : Cond.initialized "PulseRemote$Clusters" ∈ GW := gw_of (List.mem_of_getElem? (i := 32) (by decide +kernel)) rfl
theorem k_33 : Cond.initialized "PulseRemote$Collision" ∈ GW := gw_of (List.mem_of_getElem? (i := 33) (by decide +kernel)) rfl
theorem k_34 : Cond.initialized "java/lang/Math" ∈ GW := gw_of (List.mem_of_getElem? (i := 34) (by decide +kernel)) rfl
theorem k_35 : Cond.initialized "java/lang/System" ∈ GW := gw_of (List.mem_of_getElem? (i := 35) (by decide +kernel)) rfl
theorem k_63 : Cond.fieldLink "PulseRemote$Protocol" 9 "PulseRemote$Protocol" "kind" "I" ∈ GW := gw_of (List.mem_of_getElem? (i := 63) (by decide +kernel)) rfl
theorem k_64 : Cond.fieldLinkNest "PulseRemote" 106 "PulseRemote$Protocol" "kind" "I" "PulseRemote" ∈ lw_tbl := List.mem_of_getElem? (i := 64) (by decide +kernel)
theorem k_65 : Cond.fieldLinkNest "PulseRemote$Decoder" 42 "PulseRemote$Protocol" "kind" "I" "PulseRemote" ∈ lw_tbl := List.mem_of_getElem? (i := 65) (by decide +kernel)
theorem k_66 : Cond.fieldLink "PulseRemote$Protocol" 24 "PulseRemote$Protocol" "headerMark" "I" ∈ GW := gw_of (List.mem_of_getElem? (i := 66) (by decide +kernel)) rfl
theorem k_67 : Cond.fieldLinkNest "PulseRemote" 123 "PulseRemote$Protocol" "headerMark" "I" "PulseRemote" ∈ lw_tbl := List.mem_of_getElem? (i := 67) (by decide +kernel)
theorem k_68 : Cond.fieldLinkNest "PulseRemote$Decoder" 74 "PulseRemote$Protocol" "headerMark" "I" "PulseRemote" ∈ lw_tbl := List.mem_of_getElem? (i := 68) (by decide +kernel)
theorem k_69 : Cond.fieldLink "PulseRemote$Protocol" 27 "PulseRemote$Protocol" "headerSpace" "I" ∈ GW := gw_of (List.mem_of_getElem? (i := 69) (by decide +kernel)) rfl
theorem k_70 : Cond.fieldLinkNest "PulseRemote" 126 "PulseRemote$Protocol" "headerSpace" "I" "PulseRemote" ∈ lw_tbl := List.mem_of_getElem? (i := 70) (by decide +kernel)
theorem k_71 : Cond.fieldLinkNest "PulseRemote$Decoder" 81 "PulseRemote$Protocol" "headerSpace" "I" "PulseRemote" ∈ lw_tbl := List.mem_of_getElem? (i := 71) (by decide +kernel)
theorem k_72 : Cond.fieldLink "PulseRemote$Protocol" 30 "PulseRemote$Protocol" "a" "I" ∈ GW := gw_of (List.mem_of_getElem? (i := 72) (by decide +kernel)) rfl
theorem k_73 : Cond.fieldLinkNest "PulseRemote" 116 "PulseRemote$Protocol" "a" "I" "PulseRemote" ∈ lw_tbl := List.mem_of_getElem? (i := 73) (by decide +kernel)
theorem k_74 : Cond.fieldLinkNest "PulseRemote$Decoder" 84 "PulseRemote$Protocol" "a" "I" "PulseRemote" ∈ lw_tbl := List.mem_of_getElem? (i := 74) (by decide +kernel)
theorem k_75 : Cond.fieldLink "PulseRemote$Protocol" 33 "PulseRemote$Protocol" "b" "I" ∈ GW := gw_of (List.mem_of_getElem? (i := 75) (by decide +kernel)) rfl
theorem k_76 : Cond.fieldLinkNest "PulseRemote" 129 "PulseRemote$Protocol" "b" "I" "PulseRemote" ∈ lw_tbl := List.mem_of_getElem? (i := 76) (by decide +kernel)
theorem k_77 : Cond.fieldLinkNest "PulseRemote$Decoder" 94 "PulseRemote$Protocol" "b" "I" "PulseRemote" ∈ lw_tbl := List.mem_of_getElem? (i := 77) (by decide +kernel)
theorem k_78 : Cond.fieldLink "PulseRemote$Protocol" 36 "PulseRemote$Protocol" "c" "I" ∈ GW := gw_of (List.mem_of_getElem? (i := 78) (by decide +kernel)) rfl
theorem k_79 : Cond.fieldLinkNest "PulseRemote" 132 "PulseRemote$Protocol" "c" "I" "PulseRemote" ∈ lw_tbl := List.mem_of_getElem? (i := 79) (by decide +kernel)
theorem k_80 : Cond.fieldLinkNest "PulseRemote$Decoder" 97 "PulseRemote$Protocol" "c" "I" "PulseRemote" ∈ lw_tbl := List.mem_of_getElem? (i := 80) (by decide +kernel)
theorem k_81 : Cond.fieldLink "PulseRemote$Protocol" 15 "PulseRemote$Protocol" "bits" "I" ∈ GW := gw_of (List.mem_of_getElem? (i := 81) (by decide +kernel)) rfl
theorem k_82 : Cond.fieldLinkNest "PulseRemote" 135 "PulseRemote$Protocol" "bits" "I" "PulseRemote" ∈ lw_tbl := List.mem_of_getElem? (i := 82) (by decide +kernel)
theorem k_83 : Cond.fieldLinkNest "PulseRemote$Decoder" 91 "PulseRemote$Protocol" "bits" "I" "PulseRemote" ∈ lw_tbl := List.mem_of_getElem? (i := 83) (by decide +kernel)
theorem k_84 : Cond.fieldLink "PulseRemote$Protocol" 18 "PulseRemote$Protocol" "order" "I" ∈ GW := gw_of (List.mem_of_getElem? (i := 84) (by decide +kernel)) rfl
theorem k_85 : Cond.fieldLinkNest "PulseRemote" 138 "PulseRemote$Protocol" "order" "I" "PulseRemote" ∈ lw_tbl := List.mem_of_getElem? (i := 85) (by decide +kernel)
theorem k_86 : Cond.fieldLink "PulseRemote$Protocol" 21 "PulseRemote$Protocol" "repetition" "I" ∈ GW := gw_of (List.mem_of_getElem? (i := 86) (by decide +kernel)) rfl
theorem k_87 : Cond.fieldLinkNest "PulseRemote$PressList" 102 "PulseRemote$Protocol" "repetition" "I" "PulseRemote" ∈ lw_tbl := List.mem_of_getElem? (i := 87) (by decide +kernel)
theorem k_88 : Cond.fieldLinkNest "PulseRemote" 141 "PulseRemote$Protocol" "repetition" "I" "PulseRemote" ∈ lw_tbl := List.mem_of_getElem? (i := 88) (by decide +kernel)
theorem k_89 : Cond.fieldLinkNest "PulseRemote$Decoder" 71 "PulseRemote$Protocol" "repetition" "I" "PulseRemote" ∈ lw_tbl := List.mem_of_getElem? (i := 89) (by decide +kernel)
theorem k_110 : Cond.fieldLink "PulseRemote$Table" 11 "PulseRemote$Table" "protocols" "[LPulseRemote$Protocol;" ∈ GW := gw_of (List.mem_of_getElem? (i := 110) (by decide +kernel)) rfl
theorem k_111 : Cond.fieldLink "PulseRemote$Table" 35 "PulseRemote$Table" "protocolCount" "I" ∈ GW := gw_of (List.mem_of_getElem? (i := 111) (by decide +kernel)) rfl
theorem k_112 : Cond.fieldLinkNest "PulseRemote$Decoder" 33 "PulseRemote$Table" "protocolCount" "I" "PulseRemote" ∈ lw_tbl := List.mem_of_getElem? (i := 112) (by decide +kernel)
theorem k_113 : Cond.fieldLinkNest "PulseRemote" 144 "PulseRemote$Table" "protocolCount" "I" "PulseRemote" ∈ lw_tbl := List.mem_of_getElem? (i := 113) (by decide +kernel)
theorem k_114 : Cond.fieldLink "PulseRemote$Table" 17 "PulseRemote$Table" "buttonProtocols" "[I" ∈ GW := gw_of (List.mem_of_getElem? (i := 114) (by decide +kernel)) rfl
theorem k_115 : Cond.fieldLink "PulseRemote$Table" 21 "PulseRemote$Table" "buttonIdentities" "[I" ∈ GW := gw_of (List.mem_of_getElem? (i := 115) (by decide +kernel)) rfl
theorem k_116 : Cond.fieldLink "PulseRemote$Table" 39 "PulseRemote$Table" "buttonCount" "I" ∈ GW := gw_of (List.mem_of_getElem? (i := 116) (by decide +kernel)) rfl
theorem k_117 : Cond.fieldLinkNest "PulseRemote" 147 "PulseRemote$Table" "buttonCount" "I" "PulseRemote" ∈ lw_tbl := List.mem_of_getElem? (i := 117) (by decide +kernel)
theorem k_137 : Cond.fieldLink "PulseRemote$Train" 9 "PulseRemote$Train" "durations" "[I" ∈ GW := gw_of (List.mem_of_getElem? (i := 137) (by decide +kernel)) rfl
theorem k_138 : Cond.fieldLink "PulseRemote$Train" 15 "PulseRemote$Train" "size" "I" ∈ GW := gw_of (List.mem_of_getElem? (i := 138) (by decide +kernel)) rfl
theorem k_139 : Cond.fieldLinkNest "PulseRemote$FrameList" 33 "PulseRemote$Train" "size" "I" "PulseRemote" ∈ lw_tbl := List.mem_of_getElem? (i := 139) (by decide +kernel)
theorem k_140 : Cond.fieldLinkNest "PulseRemote$Collision" 44 "PulseRemote$Train" "size" "I" "PulseRemote" ∈ lw_tbl := List.mem_of_getElem? (i := 140) (by decide +kernel)
theorem k_141 : Cond.fieldLinkNest "PulseRemote$Protocol" 51 "PulseRemote$Train" "size" "I" "PulseRemote" ∈ lw_tbl := List.mem_of_getElem? (i := 141) (by decide +kernel)
theorem k_142 : Cond.fieldLinkNest "PulseRemote" 244 "PulseRemote$Train" "size" "I" "PulseRemote" ∈ lw_tbl := List.mem_of_getElem? (i := 142) (by decide +kernel)
theorem k_148 : Cond.fieldLink "PulseRemote$State" 12 "PulseRemote$State" "table" "LPulseRemote$Table;" ∈ GW := gw_of (List.mem_of_getElem? (i := 148) (by decide +kernel)) rfl
theorem k_149 : Cond.fieldLinkNest "PulseRemote$PressList" 46 "PulseRemote$State" "table" "LPulseRemote$Table;" "PulseRemote" ∈ lw_tbl := List.mem_of_getElem? (i := 149) (by decide +kernel)
theorem k_150 : Cond.fieldLinkNest "PulseRemote" 84 "PulseRemote$State" "table" "LPulseRemote$Table;" "PulseRemote" ∈ lw_tbl := List.mem_of_getElem? (i := 150) (by decide +kernel)
theorem k_151 : Cond.fieldLink "PulseRemote$State" 20 "PulseRemote$State" "trains" "[LPulseRemote$Train;" ∈ GW := gw_of (List.mem_of_getElem? (i := 151) (by decide +kernel)) rfl
theorem k_152 : Cond.fieldLink "PulseRemote$State" 24 "PulseRemote$State" "gap" "I" ∈ GW := gw_of (List.mem_of_getElem? (i := 152) (by decide +kernel)) rfl
theorem k_153 : Cond.fieldLinkNest "PulseRemote$PressList" 27 "PulseRemote$State" "gap" "I" "PulseRemote" ∈ lw_tbl := List.mem_of_getElem? (i := 153) (by decide +kernel)
theorem k_154 : Cond.fieldLinkNest "PulseRemote" 163 "PulseRemote$State" "gap" "I" "PulseRemote" ∈ lw_tbl := List.mem_of_getElem? (i := 154) (by decide +kernel)
theorem k_155 : Cond.fieldLink "PulseRemote$State" 29 "PulseRemote$State" "hold" "I" ∈ GW := gw_of (List.mem_of_getElem? (i := 155) (by decide +kernel)) rfl
theorem k_156 : Cond.fieldLinkNest "PulseRemote$PressList" 63 "PulseRemote$State" "hold" "I" "PulseRemote" ∈ lw_tbl := List.mem_of_getElem? (i := 156) (by decide +kernel)
theorem k_157 : Cond.fieldLinkNest "PulseRemote" 223 "PulseRemote$State" "hold" "I" "PulseRemote" ∈ lw_tbl := List.mem_of_getElem? (i := 157) (by decide +kernel)
theorem k_158 : Cond.fieldLink "PulseRemote$State" 32 "PulseRemote$State" "tolerance" "I" ∈ GW := gw_of (List.mem_of_getElem? (i := 158) (by decide +kernel)) rfl
theorem k_159 : Cond.fieldLinkNest "PulseRemote$PressList" 50 "PulseRemote$State" "tolerance" "I" "PulseRemote" ∈ lw_tbl := List.mem_of_getElem? (i := 159) (by decide +kernel)
theorem k_160 : Cond.fieldLinkNest "PulseRemote" 226 "PulseRemote$State" "tolerance" "I" "PulseRemote" ∈ lw_tbl := List.mem_of_getElem? (i := 160) (by decide +kernel)
theorem k_180 : Cond.fieldLinkNest "PulseRemote" 150 "PulseRemote$Text" "size" "I" "PulseRemote" ∈ lw_tbl := List.mem_of_getElem? (i := 180) (by decide +kernel)
theorem k_205 : Cond.fieldLink "PulseRemote$FrameList" 9 "PulseRemote$FrameList" "starts" "[I" ∈ GW := gw_of (List.mem_of_getElem? (i := 205) (by decide +kernel)) rfl
theorem k_206 : Cond.fieldLink "PulseRemote$FrameList" 15 "PulseRemote$FrameList" "sizes" "[I" ∈ GW := gw_of (List.mem_of_getElem? (i := 206) (by decide +kernel)) rfl
theorem k_207 : Cond.fieldLink "PulseRemote$FrameList" 29 "PulseRemote$FrameList" "total" "I" ∈ GW := gw_of (List.mem_of_getElem? (i := 207) (by decide +kernel)) rfl
theorem k_208 : Cond.fieldLinkNest "PulseRemote$PressList" 43 "PulseRemote$FrameList" "total" "I" "PulseRemote" ∈ lw_tbl := List.mem_of_getElem? (i := 208) (by decide +kernel)
theorem k_209 : Cond.fieldLinkNest "PulseRemote$Learner" 34 "PulseRemote$FrameList" "total" "I" "PulseRemote" ∈ lw_tbl := List.mem_of_getElem? (i := 209) (by decide +kernel)
theorem k_210 : Cond.fieldLinkNest "PulseRemote" 286 "PulseRemote$FrameList" "total" "I" "PulseRemote" ∈ lw_tbl := List.mem_of_getElem? (i := 210) (by decide +kernel)
theorem k_211 : Cond.fieldLink "PulseRemote$FrameList" 21 "PulseRemote$FrameList" "train" "LPulseRemote$Train;" ∈ GW := gw_of (List.mem_of_getElem? (i := 211) (by decide +kernel)) rfl
theorem k_227 : Cond.fieldLink "PulseRemote$Decoder" 9 "PulseRemote$Decoder" "protocol" "I" ∈ GW := gw_of (List.mem_of_getElem? (i := 227) (by decide +kernel)) rfl
theorem k_228 : Cond.fieldLinkNest "PulseRemote$PressList" 84 "PulseRemote$Decoder" "protocol" "I" "PulseRemote" ∈ lw_tbl := List.mem_of_getElem? (i := 228) (by decide +kernel)
theorem k_229 : Cond.fieldLinkNest "PulseRemote" 302 "PulseRemote$Decoder" "protocol" "I" "PulseRemote" ∈ lw_tbl := List.mem_of_getElem? (i := 229) (by decide +kernel)
theorem k_230 : Cond.fieldLink "PulseRemote$Decoder" 15 "PulseRemote$Decoder" "code" "I" ∈ GW := gw_of (List.mem_of_getElem? (i := 230) (by decide +kernel)) rfl
theorem k_231 : Cond.fieldLinkNest "PulseRemote$PressList" 90 "PulseRemote$Decoder" "code" "I" "PulseRemote" ∈ lw_tbl := List.mem_of_getElem? (i := 231) (by decide +kernel)
theorem k_232 : Cond.fieldLinkNest "PulseRemote" 305 "PulseRemote$Decoder" "code" "I" "PulseRemote" ∈ lw_tbl := List.mem_of_getElem? (i := 232) (by decide +kernel)
theorem k_233 : Cond.fieldLink "PulseRemote$Decoder" 18 "PulseRemote$Decoder" "durations" "[I" ∈ GW := gw_of (List.mem_of_getElem? (i := 233) (by decide +kernel)) rfl
theorem k_234 : Cond.fieldLink "PulseRemote$Decoder" 64 "PulseRemote$Decoder" "size" "I" ∈ GW := gw_of (List.mem_of_getElem? (i := 234) (by decide +kernel)) rfl
theorem k_235 : Cond.fieldLink "PulseRemote$Decoder" 26 "PulseRemote$Decoder" "tolerance" "I" ∈ GW := gw_of (List.mem_of_getElem? (i := 235) (by decide +kernel)) rfl
theorem k_236 : Cond.fieldLink "PulseRemote$Decoder" 22 "PulseRemote$Decoder" "open" "[J" ∈ GW := gw_of (List.mem_of_getElem? (i := 236) (by decide +kernel)) rfl
theorem k_257 : Cond.fieldLink "PulseRemote$PressList" 9 "PulseRemote$PressList" "protocols" "[I" ∈ GW := gw_of (List.mem_of_getElem? (i := 257) (by decide +kernel)) rfl
theorem k_258 : Cond.fieldLinkNest "PulseRemote" 322 "PulseRemote$PressList" "protocols" "[I" "PulseRemote" ∈ lw_tbl := List.mem_of_getElem? (i := 258) (by decide +kernel)
theorem k_259 : Cond.fieldLink "PulseRemote$PressList" 15 "PulseRemote$PressList" "codes" "[I" ∈ GW := gw_of (List.mem_of_getElem? (i := 259) (by decide +kernel)) rfl
theorem k_260 : Cond.fieldLinkNest "PulseRemote" 326 "PulseRemote$PressList" "codes" "[I" "PulseRemote" ∈ lw_tbl := List.mem_of_getElem? (i := 260) (by decide +kernel)
theorem k_261 : Cond.fieldLink "PulseRemote$PressList" 18 "PulseRemote$PressList" "counts" "[I" ∈ GW := gw_of (List.mem_of_getElem? (i := 261) (by decide +kernel)) rfl
theorem k_262 : Cond.fieldLinkNest "PulseRemote" 329 "PulseRemote$PressList" "counts" "[I" "PulseRemote" ∈ lw_tbl := List.mem_of_getElem? (i := 262) (by decide +kernel)
theorem k_263 : Cond.fieldLink "PulseRemote$PressList" 37 "PulseRemote$PressList" "listed" "I" ∈ GW := gw_of (List.mem_of_getElem? (i := 263) (by decide +kernel)) rfl
theorem k_264 : Cond.fieldLinkNest "PulseRemote" 319 "PulseRemote$PressList" "listed" "I" "PulseRemote" ∈ lw_tbl := List.mem_of_getElem? (i := 264) (by decide +kernel)
theorem k_265 : Cond.fieldLink "PulseRemote$PressList" 40 "PulseRemote$PressList" "strays" "I" ∈ GW := gw_of (List.mem_of_getElem? (i := 265) (by decide +kernel)) rfl
theorem k_266 : Cond.fieldLinkNest "PulseRemote" 335 "PulseRemote$PressList" "strays" "I" "PulseRemote" ∈ lw_tbl := List.mem_of_getElem? (i := 266) (by decide +kernel)
theorem k_267 : Cond.fieldLink "PulseRemote$PressList" 107 "PulseRemote$PressList" "latestIsListed" "Z" ∈ GW := gw_of (List.mem_of_getElem? (i := 267) (by decide +kernel)) rfl
theorem k_268 : Cond.fieldLink "PulseRemote$PressList" 87 "PulseRemote$PressList" "latestProtocol" "I" ∈ GW := gw_of (List.mem_of_getElem? (i := 268) (by decide +kernel)) rfl
theorem k_269 : Cond.fieldLink "PulseRemote$PressList" 93 "PulseRemote$PressList" "latestCode" "I" ∈ GW := gw_of (List.mem_of_getElem? (i := 269) (by decide +kernel)) rfl
theorem k_299 : Cond.fieldLink "PulseRemote$Clusters" 9 "PulseRemote$Clusters" "sorted" "[I" ∈ GW := gw_of (List.mem_of_getElem? (i := 299) (by decide +kernel)) rfl
theorem k_300 : Cond.fieldLink "PulseRemote$Clusters" 15 "PulseRemote$Clusters" "size" "I" ∈ GW := gw_of (List.mem_of_getElem? (i := 300) (by decide +kernel)) rfl
theorem k_301 : Cond.fieldLink "PulseRemote$Clusters" 19 "PulseRemote$Clusters" "clusterCount" "I" ∈ GW := gw_of (List.mem_of_getElem? (i := 301) (by decide +kernel)) rfl
theorem k_302 : Cond.fieldLinkNest "PulseRemote$Learner" 58 "PulseRemote$Clusters" "clusterCount" "I" "PulseRemote" ∈ lw_tbl := List.mem_of_getElem? (i := 302) (by decide +kernel)
theorem k_303 : Cond.fieldLink "PulseRemote$Clusters" 30 "PulseRemote$Clusters" "firstMean" "I" ∈ GW := gw_of (List.mem_of_getElem? (i := 303) (by decide +kernel)) rfl
theorem k_304 : Cond.fieldLinkNest "PulseRemote$Learner" 71 "PulseRemote$Clusters" "firstMean" "I" "PulseRemote" ∈ lw_tbl := List.mem_of_getElem? (i := 304) (by decide +kernel)
theorem k_305 : Cond.fieldLink "PulseRemote$Clusters" 33 "PulseRemote$Clusters" "secondMean" "I" ∈ GW := gw_of (List.mem_of_getElem? (i := 305) (by decide +kernel)) rfl
theorem k_306 : Cond.fieldLinkNest "PulseRemote$Learner" 80 "PulseRemote$Clusters" "secondMean" "I" "PulseRemote" ∈ lw_tbl := List.mem_of_getElem? (i := 306) (by decide +kernel)
theorem k_318 : Cond.fieldLink "PulseRemote$Learner" 12 "PulseRemote$Learner" "marks" "LPulseRemote$Clusters;" ∈ GW := gw_of (List.mem_of_getElem? (i := 318) (by decide +kernel)) rfl
theorem k_319 : Cond.fieldLink "PulseRemote$Learner" 18 "PulseRemote$Learner" "spaces" "LPulseRemote$Clusters;" ∈ GW := gw_of (List.mem_of_getElem? (i := 319) (by decide +kernel)) rfl
theorem k_320 : Cond.fieldLink "PulseRemote$Learner" 27 "PulseRemote$Learner" "size" "I" ∈ GW := gw_of (List.mem_of_getElem? (i := 320) (by decide +kernel)) rfl
theorem k_321 : Cond.fieldLink "PulseRemote$Learner" 45 "PulseRemote$Learner" "headerMark" "I" ∈ GW := gw_of (List.mem_of_getElem? (i := 321) (by decide +kernel)) rfl
theorem k_322 : Cond.fieldLinkNest "PulseRemote" 179 "PulseRemote$Learner" "headerMark" "I" "PulseRemote" ∈ lw_tbl := List.mem_of_getElem? (i := 322) (by decide +kernel)
theorem k_323 : Cond.fieldLink "PulseRemote$Learner" 48 "PulseRemote$Learner" "headerSpace" "I" ∈ GW := gw_of (List.mem_of_getElem? (i := 323) (by decide +kernel)) rfl
theorem k_324 : Cond.fieldLinkNest "PulseRemote" 180 "PulseRemote$Learner" "headerSpace" "I" "PulseRemote" ∈ lw_tbl := List.mem_of_getElem? (i := 324) (by decide +kernel)
theorem k_325 : Cond.fieldLink "PulseRemote$Learner" 65 "PulseRemote$Learner" "kind" "I" ∈ GW := gw_of (List.mem_of_getElem? (i := 325) (by decide +kernel)) rfl
theorem k_326 : Cond.fieldLinkNest "PulseRemote" 177 "PulseRemote$Learner" "kind" "I" "PulseRemote" ∈ lw_tbl := List.mem_of_getElem? (i := 326) (by decide +kernel)
theorem k_327 : Cond.fieldLink "PulseRemote$Learner" 68 "PulseRemote$Learner" "bits" "I" ∈ GW := gw_of (List.mem_of_getElem? (i := 327) (by decide +kernel)) rfl
theorem k_328 : Cond.fieldLinkNest "PulseRemote" 178 "PulseRemote$Learner" "bits" "I" "PulseRemote" ∈ lw_tbl := List.mem_of_getElem? (i := 328) (by decide +kernel)
theorem k_329 : Cond.fieldLink "PulseRemote$Learner" 74 "PulseRemote$Learner" "a" "I" ∈ GW := gw_of (List.mem_of_getElem? (i := 329) (by decide +kernel)) rfl
theorem k_330 : Cond.fieldLinkNest "PulseRemote" 181 "PulseRemote$Learner" "a" "I" "PulseRemote" ∈ lw_tbl := List.mem_of_getElem? (i := 330) (by decide +kernel)
theorem k_331 : Cond.fieldLink "PulseRemote$Learner" 77 "PulseRemote$Learner" "b" "I" ∈ GW := gw_of (List.mem_of_getElem? (i := 331) (by decide +kernel)) rfl
theorem k_332 : Cond.fieldLinkNest "PulseRemote" 182 "PulseRemote$Learner" "b" "I" "PulseRemote" ∈ lw_tbl := List.mem_of_getElem? (i := 332) (by decide +kernel)
theorem k_333 : Cond.fieldLink "PulseRemote$Learner" 83 "PulseRemote$Learner" "c" "I" ∈ GW := gw_of (List.mem_of_getElem? (i := 333) (by decide +kernel)) rfl
theorem k_334 : Cond.fieldLinkNest "PulseRemote" 183 "PulseRemote$Learner" "c" "I" "PulseRemote" ∈ lw_tbl := List.mem_of_getElem? (i := 334) (by decide +kernel)
theorem k_364 : Cond.fieldLink "PulseRemote$Collision" 12 "PulseRemote$Collision" "first" "LPulseRemote$Train;" ∈ GW := gw_of (List.mem_of_getElem? (i := 364) (by decide +kernel)) rfl
theorem k_365 : Cond.fieldLink "PulseRemote$Collision" 18 "PulseRemote$Collision" "second" "LPulseRemote$Train;" ∈ GW := gw_of (List.mem_of_getElem? (i := 365) (by decide +kernel)) rfl
theorem k_366 : Cond.fieldLink "PulseRemote$Collision" 25 "PulseRemote$Collision" "firstIndex" "I" ∈ GW := gw_of (List.mem_of_getElem? (i := 366) (by decide +kernel)) rfl
theorem k_367 : Cond.fieldLink "PulseRemote$Collision" 29 "PulseRemote$Collision" "firstMoment" "I" ∈ GW := gw_of (List.mem_of_getElem? (i := 367) (by decide +kernel)) rfl
theorem k_368 : Cond.fieldLink "PulseRemote$Collision" 32 "PulseRemote$Collision" "secondIndex" "I" ∈ GW := gw_of (List.mem_of_getElem? (i := 368) (by decide +kernel)) rfl
theorem k_369 : Cond.fieldLink "PulseRemote$Collision" 35 "PulseRemote$Collision" "secondMoment" "I" ∈ GW := gw_of (List.mem_of_getElem? (i := 369) (by decide +kernel)) rfl
theorem k_370 : Cond.fieldLink "PulseRemote$Collision" 47 "PulseRemote$Collision" "hasMark" "Z" ∈ GW := gw_of (List.mem_of_getElem? (i := 370) (by decide +kernel)) rfl
theorem k_371 : Cond.fieldLink "PulseRemote$Collision" 51 "PulseRemote$Collision" "start" "I" ∈ GW := gw_of (List.mem_of_getElem? (i := 371) (by decide +kernel)) rfl
theorem k_372 : Cond.fieldLink "PulseRemote$Collision" 58 "PulseRemote$Collision" "end" "I" ∈ GW := gw_of (List.mem_of_getElem? (i := 372) (by decide +kernel)) rfl
theorem k_373 : Cond.fieldLink "PulseRemote$Collision" 38 "PulseRemote$Collision" "space" "I" ∈ GW := gw_of (List.mem_of_getElem? (i := 373) (by decide +kernel)) rfl
theorem k_395 : Cond.fieldLink "PulseRemote" 12 "PulseRemote" "state" "LPulseRemote$State;" ∈ GW := gw_of (List.mem_of_getElem? (i := 395) (by decide +kernel)) rfl
theorem k_396 : Cond.fieldLink "PulseRemote" 16 "PulseRemote" "saved" "[LPulseRemote$State;" ∈ GW := gw_of (List.mem_of_getElem? (i := 396) (by decide +kernel)) rfl
theorem k_397 : Cond.fieldLink "PulseRemote" 153 "PulseRemote" "savedCount" "I" ∈ GW := gw_of (List.mem_of_getElem? (i := 397) (by decide +kernel)) rfl
theorem k_398 : Cond.fieldLink "PulseRemote" 23 "PulseRemote" "text" "LPulseRemote$Text;" ∈ GW := gw_of (List.mem_of_getElem? (i := 398) (by decide +kernel)) rfl
theorem k_400 : Cond.fieldLink "PulseRemote" 37 "PulseRemote" "scratch" "LPulseRemote$Train;" ∈ GW := gw_of (List.mem_of_getElem? (i := 400) (by decide +kernel)) rfl
theorem k_402 : Cond.fieldLink "PulseRemote" 48 "PulseRemote" "frames" "LPulseRemote$FrameList;" ∈ GW := gw_of (List.mem_of_getElem? (i := 402) (by decide +kernel)) rfl
theorem k_403 : Cond.fieldLink "PulseRemote" 55 "PulseRemote" "decoder" "LPulseRemote$Decoder;" ∈ GW := gw_of (List.mem_of_getElem? (i := 403) (by decide +kernel)) rfl
theorem k_404 : Cond.fieldLink "PulseRemote" 62 "PulseRemote" "presses" "LPulseRemote$PressList;" ∈ GW := gw_of (List.mem_of_getElem? (i := 404) (by decide +kernel)) rfl
theorem k_405 : Cond.fieldLink "PulseRemote" 69 "PulseRemote" "learner" "LPulseRemote$Learner;" ∈ GW := gw_of (List.mem_of_getElem? (i := 405) (by decide +kernel)) rfl
theorem k_406 : Cond.fieldLink "PulseRemote" 76 "PulseRemote" "collision" "LPulseRemote$Collision;" ∈ GW := gw_of (List.mem_of_getElem? (i := 406) (by decide +kernel)) rfl
theorem k_432 : Cond.methodLink "PulseRemoteLaw" 10 ⟨"PulseRemote", "count", "(I)I"⟩ ∈ GW := gw_of (List.mem_of_getElem? (i := 432) (by decide +kernel)) rfl
theorem k_433 : Cond.instanceMethod ⟨"PulseRemote", "count", "(I)I"⟩ ∈ GW := gw_of (List.mem_of_getElem? (i := 433) (by decide +kernel)) rfl
theorem k_434 : Cond.selects "PulseRemote" ⟨"PulseRemote", "count", "(I)I"⟩ ⟨"PulseRemote", "count", "(I)I"⟩ ∈ GW := gw_of (List.mem_of_getElem? (i := 434) (by decide +kernel)) rfl
theorem k_435 : Cond.code yX11_count cX11_count 2 (some .int) ∈ GW := gw_of (List.mem_of_getElem? (i := 435) (by decide +kernel)) rfl
theorem k_436 : Cond.methodLink "PulseRemoteLaw" 87 ⟨"PulseRemote", "setTolerance", "(I)I"⟩ ∈ GW := gw_of (List.mem_of_getElem? (i := 436) (by decide +kernel)) rfl
theorem k_437 : Cond.instanceMethod ⟨"PulseRemote", "setTolerance", "(I)I"⟩ ∈ GW := gw_of (List.mem_of_getElem? (i := 437) (by decide +kernel)) rfl
theorem k_438 : Cond.selects "PulseRemote" ⟨"PulseRemote", "setTolerance", "(I)I"⟩ ⟨"PulseRemote", "setTolerance", "(I)I"⟩ ∈ GW := gw_of (List.mem_of_getElem? (i := 438) (by decide +kernel)) rfl
theorem k_439 : Cond.code yX11_setTolerance cX11_setTolerance 3 (some .int) ∈ GW := gw_of (List.mem_of_getElem? (i := 439) (by decide +kernel)) rfl
theorem k_440 : Cond.methodLink "PulseRemote" 80 ⟨"PulseRemote", "inRange", "(III)Z"⟩ ∈ GW := gw_of (List.mem_of_getElem? (i := 440) (by decide +kernel)) rfl
theorem k_441 : Cond.static ⟨"PulseRemote", "inRange", "(III)Z"⟩ ∈ GW := gw_of (List.mem_of_getElem? (i := 441) (by decide +kernel)) rfl
theorem k_442 : Cond.code yX11_inRange cX11_inRange 3 (some .boolean) ∈ GW := gw_of (List.mem_of_getElem? (i := 442) (by decide +kernel)) rfl
theorem k_443 : Cond.methodLink "PulseRemote" 91 ⟨"PulseRemote", "saveState", "()V"⟩ ∈ GW := gw_of (List.mem_of_getElem? (i := 443) (by decide +kernel)) rfl
theorem k_445 : Cond.instanceMethod ⟨"PulseRemote", "saveState", "()V"⟩ ∈ GW := gw_of (List.mem_of_getElem? (i := 445) (by decide +kernel)) rfl
theorem k_446 : Cond.code yX11_saveState cX11_saveState 3 none ∈ GW := gw_of (List.mem_of_getElem? (i := 446) (by decide +kernel)) rfl
theorem k_447 : Cond.methodLink "PulseRemote" 357 ⟨"PulseRemote$State", "copyFrom", "(LPulseRemote$State;)V"⟩ ∈ GW := gw_of (List.mem_of_getElem? (i := 447) (by decide +kernel)) rfl
theorem k_448 : Cond.instanceMethod ⟨"PulseRemote$State", "copyFrom", "(LPulseRemote$State;)V"⟩ ∈ GW := gw_of (List.mem_of_getElem? (i := 448) (by decide +kernel)) rfl
theorem k_449 : Cond.selects "PulseRemote$State" ⟨"PulseRemote$State", "copyFrom", "(LPulseRemote$State;)V"⟩ ⟨"PulseRemote$State", "copyFrom", "(LPulseRemote$State;)V"⟩ ∈ GW := gw_of (List.mem_of_getElem? (i := 449) (by decide +kernel)) rfl
theorem k_450 : Cond.code yX7_copyFrom cX7_copyFrom 3 none ∈ GW := gw_of (List.mem_of_getElem? (i := 450) (by decide +kernel)) rfl
theorem k_451 : Cond.methodLink "PulseRemote$State" 40 ⟨"PulseRemote$Table", "copyFrom", "(LPulseRemote$Table;)V"⟩ ∈ GW := gw_of (List.mem_of_getElem? (i := 451) (by decide +kernel)) rfl
theorem k_452 : Cond.instanceMethod ⟨"PulseRemote$Table", "copyFrom", "(LPulseRemote$Table;)V"⟩ ∈ GW := gw_of (List.mem_of_getElem? (i := 452) (by decide +kernel)) rfl
theorem k_453 : Cond.selects "PulseRemote$Table" ⟨"PulseRemote$Table", "copyFrom", "(LPulseRemote$Table;)V"⟩ ⟨"PulseRemote$Table", "copyFrom", "(LPulseRemote$Table;)V"⟩ ∈ GW := gw_of (List.mem_of_getElem? (i := 453) (by decide +kernel)) rfl
theorem k_454 : Cond.code yX8_copyFrom cX8_copyFrom 3 none ∈ GW := gw_of (List.mem_of_getElem? (i := 454) (by decide +kernel)) rfl
theorem k_455 : Cond.methodLink "PulseRemote$Table" 25 ⟨"PulseRemote$Protocol", "copyFrom", "(LPulseRemote$Protocol;)V"⟩ ∈ GW := gw_of (List.mem_of_getElem? (i := 455) (by decide +kernel)) rfl
theorem k_456 : Cond.instanceMethod ⟨"PulseRemote$Protocol", "copyFrom", "(LPulseRemote$Protocol;)V"⟩ ∈ GW := gw_of (List.mem_of_getElem? (i := 456) (by decide +kernel)) rfl
theorem k_457 : Cond.selects "PulseRemote$Protocol" ⟨"PulseRemote$Protocol", "copyFrom", "(LPulseRemote$Protocol;)V"⟩ ⟨"PulseRemote$Protocol", "copyFrom", "(LPulseRemote$Protocol;)V"⟩ ∈ GW := gw_of (List.mem_of_getElem? (i := 457) (by decide +kernel)) rfl
theorem k_458 : Cond.code yX6_copyFrom cX6_copyFrom 2 none ∈ GW := gw_of (List.mem_of_getElem? (i := 458) (by decide +kernel)) rfl
theorem k_459 : Cond.methodLink "PulseRemote$Protocol" 39 ⟨"PulseRemote$Protocol", "useShape", "(IIII)V"⟩ ∈ GW := gw_of (List.mem_of_getElem? (i := 459) (by decide +kernel)) rfl
theorem k_460 : Cond.instanceMethod ⟨"PulseRemote$Protocol", "useShape", "(IIII)V"⟩ ∈ GW := gw_of (List.mem_of_getElem? (i := 460) (by decide +kernel)) rfl
theorem k_461 : Cond.selects "PulseRemote$Protocol" ⟨"PulseRemote$Protocol", "useShape", "(IIII)V"⟩ ⟨"PulseRemote$Protocol", "useShape", "(IIII)V"⟩ ∈ GW := gw_of (List.mem_of_getElem? (i := 461) (by decide +kernel)) rfl
theorem k_462 : Cond.code yX6_useShape cX6_useShape 5 none ∈ GW := gw_of (List.mem_of_getElem? (i := 462) (by decide +kernel)) rfl
theorem k_463 : Cond.methodLink "PulseRemote$Protocol" 43 ⟨"PulseRemote$Protocol", "useLengths", "(IIIII)V"⟩ ∈ GW := gw_of (List.mem_of_getElem? (i := 463) (by decide +kernel)) rfl
theorem k_464 : Cond.instanceMethod ⟨"PulseRemote$Protocol", "useLengths", "(IIIII)V"⟩ ∈ GW := gw_of (List.mem_of_getElem? (i := 464) (by decide +kernel)) rfl
theorem k_465 : Cond.selects "PulseRemote$Protocol" ⟨"PulseRemote$Protocol", "useLengths", "(IIIII)V"⟩ ⟨"PulseRemote$Protocol", "useLengths", "(IIIII)V"⟩ ∈ GW := gw_of (List.mem_of_getElem? (i := 465) (by decide +kernel)) rfl
theorem k_466 : Cond.code yX6_useLengths cX6_useLengths 6 none ∈ GW := gw_of (List.mem_of_getElem? (i := 466) (by decide +kernel)) rfl
theorem k_467 : Cond.methodLink "PulseRemote$Table" 29 ⟨"java/lang/System", "arraycopy", "(Ljava/lang/Object;ILjava/lang/Object;II)V"⟩ ∈ GW := gw_of (List.mem_of_getElem? (i := 467) (by decide +kernel)) rfl
theorem k_468 : Cond.static arraycopyName ∈ GW := gw_of (List.mem_of_getElem? (i := 468) (by decide +kernel)) rfl
theorem k_469 : Cond.native arraycopyName ∈ GW := gw_of (List.mem_of_getElem? (i := 469) (by decide +kernel)) rfl
theorem k_470 : Cond.methodLink "PulseRemote$State" 44 ⟨"PulseRemote$Train", "copyFrom", "(LPulseRemote$Train;)V"⟩ ∈ GW := gw_of (List.mem_of_getElem? (i := 470) (by decide +kernel)) rfl
theorem k_471 : Cond.instanceMethod ⟨"PulseRemote$Train", "copyFrom", "(LPulseRemote$Train;)V"⟩ ∈ GW := gw_of (List.mem_of_getElem? (i := 471) (by decide +kernel)) rfl
theorem k_472 : Cond.selects "PulseRemote$Train" ⟨"PulseRemote$Train", "copyFrom", "(LPulseRemote$Train;)V"⟩ ⟨"PulseRemote$Train", "copyFrom", "(LPulseRemote$Train;)V"⟩ ∈ GW := gw_of (List.mem_of_getElem? (i := 472) (by decide +kernel)) rfl
theorem k_473 : Cond.code yX10_copyFrom cX10_copyFrom 2 none ∈ GW := gw_of (List.mem_of_getElem? (i := 473) (by decide +kernel)) rfl
theorem k_474 : Cond.methodLink "PulseRemote$Train" 31 ⟨"java/lang/Math", "max", "(II)I"⟩ ∈ GW := gw_of (List.mem_of_getElem? (i := 474) (by decide +kernel)) rfl
theorem k_475 : Cond.static Lib.Math.max.name ∈ GW := gw_of (List.mem_of_getElem? (i := 475) (by decide +kernel)) rfl
theorem k_476 : Cond.code Lib.Math.max.name Lib.Math.max.code 2 (some .int) ∈ GW := gw_of (List.mem_of_getElem? (i := 476) (by decide +kernel)) rfl
theorem k_477 : Cond.methodLink "PulseRemote$Train" 38 ⟨"java/lang/Math", "min", "(II)I"⟩ ∈ GW := gw_of (List.mem_of_getElem? (i := 477) (by decide +kernel)) rfl
theorem k_478 : Cond.static Lib.Math.min.name ∈ GW := gw_of (List.mem_of_getElem? (i := 478) (by decide +kernel)) rfl
theorem k_479 : Cond.code Lib.Math.min.name Lib.Math.min.code 2 (some .int) ∈ GW := gw_of (List.mem_of_getElem? (i := 479) (by decide +kernel)) rfl
theorem k_480 : Cond.methodLink "PulseRemote$Train" 41 ⟨"java/lang/System", "arraycopy", "(Ljava/lang/Object;ILjava/lang/Object;II)V"⟩ ∈ GW := gw_of (List.mem_of_getElem? (i := 480) (by decide +kernel)) rfl
theorem k_481 : Cond.methodLink "PulseRemoteLaw" 41 ⟨"PulseRemote", "frameCount", "(I)I"⟩ ∈ GW := gw_of (List.mem_of_getElem? (i := 481) (by decide +kernel)) rfl
theorem k_482 : Cond.instanceMethod ⟨"PulseRemote", "frameCount", "(I)I"⟩ ∈ GW := gw_of (List.mem_of_getElem? (i := 482) (by decide +kernel)) rfl
theorem k_483 : Cond.selects "PulseRemote" ⟨"PulseRemote", "frameCount", "(I)I"⟩ ⟨"PulseRemote", "frameCount", "(I)I"⟩ ∈ GW := gw_of (List.mem_of_getElem? (i := 483) (by decide +kernel)) rfl
theorem k_484 : Cond.code yX11_frameCount cX11_frameCount 2 (some .int) ∈ GW := gw_of (List.mem_of_getElem? (i := 484) (by decide +kernel)) rfl
theorem k_485 : Cond.methodLink "PulseRemote" 156 ⟨"PulseRemote", "isSlot", "(I)Z"⟩ ∈ GW := gw_of (List.mem_of_getElem? (i := 485) (by decide +kernel)) rfl
theorem k_486 : Cond.static ⟨"PulseRemote", "isSlot", "(I)Z"⟩ ∈ GW := gw_of (List.mem_of_getElem? (i := 486) (by decide +kernel)) rfl
theorem k_487 : Cond.code yX11_isSlot cX11_isSlot 1 (some .boolean) ∈ GW := gw_of (List.mem_of_getElem? (i := 487) (by decide +kernel)) rfl
theorem k_488 : Cond.methodLink "PulseRemote" 159 ⟨"PulseRemote$State", "trainAt", "(I)LPulseRemote$Train;"⟩ ∈ GW := gw_of (List.mem_of_getElem? (i := 488) (by decide +kernel)) rfl
theorem k_489 : Cond.instanceMethod ⟨"PulseRemote$State", "trainAt", "(I)LPulseRemote$Train;"⟩ ∈ GW := gw_of (List.mem_of_getElem? (i := 489) (by decide +kernel)) rfl
theorem k_490 : Cond.selects "PulseRemote$State" ⟨"PulseRemote$State", "trainAt", "(I)LPulseRemote$Train;"⟩ ⟨"PulseRemote$State", "trainAt", "(I)LPulseRemote$Train;"⟩ ∈ GW := gw_of (List.mem_of_getElem? (i := 490) (by decide +kernel)) rfl
theorem k_491 : Cond.code yX7_trainAt cX7_trainAt 2 (some (.object "PulseRemote$Train")) ∈ GW := gw_of (List.mem_of_getElem? (i := 491) (by decide +kernel)) rfl
theorem k_492 : Cond.methodLinkNest "PulseRemote$State" 36 ⟨"PulseRemote", "isSlot", "(I)Z"⟩ "PulseRemote" ∈ lw_tbl := List.mem_of_getElem? (i := 492) (by decide +kernel)
theorem k_493 : Cond.methodLink "PulseRemote" 166 ⟨"PulseRemote$FrameList", "split", "(LPulseRemote$Train;I)V"⟩ ∈ GW := gw_of (List.mem_of_getElem? (i := 493) (by decide +kernel)) rfl
theorem k_494 : Cond.instanceMethod ⟨"PulseRemote$FrameList", "split", "(LPulseRemote$Train;I)V"⟩ ∈ GW := gw_of (List.mem_of_getElem? (i := 494) (by decide +kernel)) rfl
theorem k_495 : Cond.selects "PulseRemote$FrameList" ⟨"PulseRemote$FrameList", "split", "(LPulseRemote$Train;I)V"⟩ ⟨"PulseRemote$FrameList", "split", "(LPulseRemote$Train;I)V"⟩ ∈ GW := gw_of (List.mem_of_getElem? (i := 495) (by decide +kernel)) rfl
theorem k_496 : Cond.code yX3_split cX3_split 6 none ∈ GW := gw_of (List.mem_of_getElem? (i := 496) (by decide +kernel)) rfl
theorem k_497 : Cond.methodLink "PulseRemote$FrameList" 25 ⟨"PulseRemote$Train", "copyFrom", "(LPulseRemote$Train;)V"⟩ ∈ GW := gw_of (List.mem_of_getElem? (i := 497) (by decide +kernel)) rfl
theorem k_498 : Cond.methodLink "PulseRemote$FrameList" 36 ⟨"PulseRemote$Train", "endsWithMark", "()Z"⟩ ∈ GW := gw_of (List.mem_of_getElem? (i := 498) (by decide +kernel)) rfl
theorem k_499 : Cond.instanceMethod ⟨"PulseRemote$Train", "endsWithMark", "()Z"⟩ ∈ GW := gw_of (List.mem_of_getElem? (i := 499) (by decide +kernel)) rfl
theorem k_500 : Cond.selects "PulseRemote$Train" ⟨"PulseRemote$Train", "endsWithMark", "()Z"⟩ ⟨"PulseRemote$Train", "endsWithMark", "()Z"⟩ ∈ GW := gw_of (List.mem_of_getElem? (i := 500) (by decide +kernel)) rfl
theorem k_501 : Cond.code yX10_endsWithMark cX10_endsWithMark 1 (some .boolean) ∈ GW := gw_of (List.mem_of_getElem? (i := 501) (by decide +kernel)) rfl
theorem k_502 : Cond.methodLink "PulseRemote$FrameList" 40 ⟨"PulseRemote$Train", "at", "(I)I"⟩ ∈ GW := gw_of (List.mem_of_getElem? (i := 502) (by decide +kernel)) rfl
theorem k_503 : Cond.instanceMethod ⟨"PulseRemote$Train", "at", "(I)I"⟩ ∈ GW := gw_of (List.mem_of_getElem? (i := 503) (by decide +kernel)) rfl
theorem k_504 : Cond.selects "PulseRemote$Train" ⟨"PulseRemote$Train", "at", "(I)I"⟩ ⟨"PulseRemote$Train", "at", "(I)I"⟩ ∈ GW := gw_of (List.mem_of_getElem? (i := 504) (by decide +kernel)) rfl
theorem k_505 : Cond.code yX10_at cX10_at 2 (some .int) ∈ GW := gw_of (List.mem_of_getElem? (i := 505) (by decide +kernel)) rfl
theorem k_506 : Cond.methodLink "PulseRemote$FrameList" 44 ⟨"PulseRemote$FrameList", "note", "(II)V"⟩ ∈ GW := gw_of (List.mem_of_getElem? (i := 506) (by decide +kernel)) rfl
theorem k_508 : Cond.instanceMethod ⟨"PulseRemote$FrameList", "note", "(II)V"⟩ ∈ GW := gw_of (List.mem_of_getElem? (i := 508) (by decide +kernel)) rfl
theorem k_509 : Cond.code yX3_note cX3_note 3 none ∈ GW := gw_of (List.mem_of_getElem? (i := 509) (by decide +kernel)) rfl
theorem k_510 : Cond.methodLink "PulseRemoteLaw" 130 ⟨"PulseRemote", "frame", "(III)I"⟩ ∈ GW := gw_of (List.mem_of_getElem? (i := 510) (by decide +kernel)) rfl
theorem k_511 : Cond.instanceMethod ⟨"PulseRemote", "frame", "(III)I"⟩ ∈ GW := gw_of (List.mem_of_getElem? (i := 511) (by decide +kernel)) rfl
theorem k_512 : Cond.selects "PulseRemote" ⟨"PulseRemote", "frame", "(III)I"⟩ ⟨"PulseRemote", "frame", "(III)I"⟩ ∈ GW := gw_of (List.mem_of_getElem? (i := 512) (by decide +kernel)) rfl
theorem k_513 : Cond.code yX11_frame cX11_frame 4 (some .int) ∈ GW := gw_of (List.mem_of_getElem? (i := 513) (by decide +kernel)) rfl
theorem k_514 : Cond.methodLink "PulseRemote" 289 ⟨"PulseRemote$FrameList", "startOf", "(I)I"⟩ ∈ GW := gw_of (List.mem_of_getElem? (i := 514) (by decide +kernel)) rfl
theorem k_515 : Cond.instanceMethod ⟨"PulseRemote$FrameList", "startOf", "(I)I"⟩ ∈ GW := gw_of (List.mem_of_getElem? (i := 515) (by decide +kernel)) rfl
theorem k_516 : Cond.selects "PulseRemote$FrameList" ⟨"PulseRemote$FrameList", "startOf", "(I)I"⟩ ⟨"PulseRemote$FrameList", "startOf", "(I)I"⟩ ∈ GW := gw_of (List.mem_of_getElem? (i := 516) (by decide +kernel)) rfl
theorem k_517 : Cond.code yX3_startOf cX3_startOf 2 (some .int) ∈ GW := gw_of (List.mem_of_getElem? (i := 517) (by decide +kernel)) rfl
theorem k_518 : Cond.methodLink "PulseRemote" 292 ⟨"PulseRemote$FrameList", "sizeOf", "(I)I"⟩ ∈ GW := gw_of (List.mem_of_getElem? (i := 518) (by decide +kernel)) rfl
theorem k_519 : Cond.instanceMethod ⟨"PulseRemote$FrameList", "sizeOf", "(I)I"⟩ ∈ GW := gw_of (List.mem_of_getElem? (i := 519) (by decide +kernel)) rfl
theorem k_520 : Cond.selects "PulseRemote$FrameList" ⟨"PulseRemote$FrameList", "sizeOf", "(I)I"⟩ ⟨"PulseRemote$FrameList", "sizeOf", "(I)I"⟩ ∈ GW := gw_of (List.mem_of_getElem? (i := 520) (by decide +kernel)) rfl
theorem k_521 : Cond.code yX3_sizeOf cX3_sizeOf 2 (some .int) ∈ GW := gw_of (List.mem_of_getElem? (i := 521) (by decide +kernel)) rfl
theorem k_522 : Cond.methodLink "PulseRemote" 295 ⟨"PulseRemote$Decoder", "decode", "(LPulseRemote$Table;LPulseRemote$FrameList;II)V"⟩ ∈ GW := gw_of (List.mem_of_getElem? (i := 522) (by decide +kernel)) rfl
theorem k_523 : Cond.instanceMethod ⟨"PulseRemote$Decoder", "decode", "(LPulseRemote$Table;LPulseRemote$FrameList;II)V"⟩ ∈ GW := gw_of (List.mem_of_getElem? (i := 523) (by decide +kernel)) rfl
theorem k_524 : Cond.selects "PulseRemote$Decoder" ⟨"PulseRemote$Decoder", "decode", "(LPulseRemote$Table;LPulseRemote$FrameList;II)V"⟩ ⟨"PulseRemote$Decoder", "decode", "(LPulseRemote$Table;LPulseRemote$FrameList;II)V"⟩ ∈ GW := gw_of (List.mem_of_getElem? (i := 524) (by decide +kernel)) rfl
theorem k_525 : Cond.code yX2_decode cX2_decode 7 none ∈ GW := gw_of (List.mem_of_getElem? (i := 525) (by decide +kernel)) rfl
theorem k_526 : Cond.methodLink "PulseRemote$Decoder" 29 ⟨"PulseRemote$Decoder", "take", "(LPulseRemote$FrameList;I)Z"⟩ ∈ GW := gw_of (List.mem_of_getElem? (i := 526) (by decide +kernel)) rfl
theorem k_528 : Cond.instanceMethod ⟨"PulseRemote$Decoder", "take", "(LPulseRemote$FrameList;I)Z"⟩ ∈ GW := gw_of (List.mem_of_getElem? (i := 528) (by decide +kernel)) rfl
theorem k_529 : Cond.code yX2_take cX2_take 4 (some .boolean) ∈ GW := gw_of (List.mem_of_getElem? (i := 529) (by decide +kernel)) rfl
theorem k_530 : Cond.methodLink "PulseRemote$Decoder" 58 ⟨"PulseRemote$FrameList", "sizeOf", "(I)I"⟩ ∈ GW := gw_of (List.mem_of_getElem? (i := 530) (by decide +kernel)) rfl
theorem k_531 : Cond.methodLink "PulseRemote$Decoder" 67 ⟨"PulseRemote$FrameList", "durationAt", "(II)I"⟩ ∈ GW := gw_of (List.mem_of_getElem? (i := 531) (by decide +kernel)) rfl
theorem k_532 : Cond.instanceMethod ⟨"PulseRemote$FrameList", "durationAt", "(II)I"⟩ ∈ GW := gw_of (List.mem_of_getElem? (i := 532) (by decide +kernel)) rfl
theorem k_533 : Cond.selects "PulseRemote$FrameList" ⟨"PulseRemote$FrameList", "durationAt", "(II)I"⟩ ⟨"PulseRemote$FrameList", "durationAt", "(II)I"⟩ ∈ GW := gw_of (List.mem_of_getElem? (i := 533) (by decide +kernel)) rfl
theorem k_534 : Cond.code yX3_durationAt cX3_durationAt 3 (some .int) ∈ GW := gw_of (List.mem_of_getElem? (i := 534) (by decide +kernel)) rfl
theorem k_535 : Cond.methodLink "PulseRemote$FrameList" 48 ⟨"PulseRemote$FrameList", "sizeOf", "(I)I"⟩ ∈ GW := gw_of (List.mem_of_getElem? (i := 535) (by decide +kernel)) rfl
theorem k_536 : Cond.methodLink "PulseRemote$FrameList" 51 ⟨"PulseRemote$FrameList", "startOf", "(I)I"⟩ ∈ GW := gw_of (List.mem_of_getElem? (i := 536) (by decide +kernel)) rfl
theorem k_537 : Cond.methodLink "PulseRemote$Decoder" 38 ⟨"PulseRemote$Table", "protocolAt", "(I)LPulseRemote$Protocol;"⟩ ∈ GW := gw_of (List.mem_of_getElem? (i := 537) (by decide +kernel)) rfl
theorem k_538 : Cond.instanceMethod ⟨"PulseRemote$Table", "protocolAt", "(I)LPulseRemote$Protocol;"⟩ ∈ GW := gw_of (List.mem_of_getElem? (i := 538) (by decide +kernel)) rfl
theorem k_539 : Cond.selects "PulseRemote$Table" ⟨"PulseRemote$Table", "protocolAt", "(I)LPulseRemote$Protocol;"⟩ ⟨"PulseRemote$Table", "protocolAt", "(I)LPulseRemote$Protocol;"⟩ ∈ GW := gw_of (List.mem_of_getElem? (i := 539) (by decide +kernel)) rfl
theorem k_540 : Cond.code yX8_protocolAt cX8_protocolAt 2 (some (.object "PulseRemote$Protocol")) ∈ GW := gw_of (List.mem_of_getElem? (i := 540) (by decide +kernel)) rfl
theorem k_541 : Cond.methodLink "PulseRemote$Decoder" 47 ⟨"PulseRemote$Decoder", "phaseCode", "(LPulseRemote$Protocol;)I"⟩ ∈ GW := gw_of (List.mem_of_getElem? (i := 541) (by decide +kernel)) rfl
theorem k_543 : Cond.instanceMethod ⟨"PulseRemote$Decoder", "phaseCode", "(LPulseRemote$Protocol;)I"⟩ ∈ GW := gw_of (List.mem_of_getElem? (i := 543) (by decide +kernel)) rfl
theorem k_544 : Cond.code yX2_phaseCode cX2_phaseCode 11 (some .int) ∈ GW := gw_of (List.mem_of_getElem? (i := 544) (by decide +kernel)) rfl
theorem k_545 : Cond.methodLink "PulseRemote$Decoder" 77 ⟨"PulseRemote$Decoder", "fits", "(II)Z"⟩ ∈ GW := gw_of (List.mem_of_getElem? (i := 545) (by decide +kernel)) rfl
theorem k_547 : Cond.instanceMethod ⟨"PulseRemote$Decoder", "fits", "(II)Z"⟩ ∈ GW := gw_of (List.mem_of_getElem? (i := 547) (by decide +kernel)) rfl
theorem k_548 : Cond.code yX2_fits cX2_fits 3 (some .boolean) ∈ GW := gw_of (List.mem_of_getElem? (i := 548) (by decide +kernel)) rfl
theorem k_549 : Cond.methodLinkNest "PulseRemote$Decoder" 87 ⟨"PulseRemote", "matches", "(III)Z"⟩ "PulseRemote" ∈ lw_tbl := List.mem_of_getElem? (i := 549) (by decide +kernel)
theorem k_550 : Cond.static ⟨"PulseRemote", "matches", "(III)Z"⟩ ∈ GW := gw_of (List.mem_of_getElem? (i := 550) (by decide +kernel)) rfl
theorem k_551 : Cond.code yX11_matches cX11_matches 4 (some .boolean) ∈ GW := gw_of (List.mem_of_getElem? (i := 551) (by decide +kernel)) rfl
theorem k_552 : Cond.methodLink "PulseRemote$Decoder" 103 ⟨"PulseRemote$Decoder", "placesOf", "(I)J"⟩ ∈ GW := gw_of (List.mem_of_getElem? (i := 552) (by decide +kernel)) rfl
theorem k_554 : Cond.instanceMethod ⟨"PulseRemote$Decoder", "placesOf", "(I)J"⟩ ∈ GW := gw_of (List.mem_of_getElem? (i := 554) (by decide +kernel)) rfl
theorem k_555 : Cond.code yX2_placesOf cX2_placesOf 5 (some .long) ∈ GW := gw_of (List.mem_of_getElem? (i := 555) (by decide +kernel)) rfl
theorem k_556 : Cond.methodLink "PulseRemote$Decoder" 107 ⟨"java/lang/Math", "min", "(II)I"⟩ ∈ GW := gw_of (List.mem_of_getElem? (i := 556) (by decide +kernel)) rfl
theorem k_557 : Cond.methodLink "PulseRemote$Decoder" 112 ⟨"PulseRemote$Decoder", "isIn", "(JI)Z"⟩ ∈ GW := gw_of (List.mem_of_getElem? (i := 557) (by decide +kernel)) rfl
theorem k_558 : Cond.static ⟨"PulseRemote$Decoder", "isIn", "(JI)Z"⟩ ∈ GW := gw_of (List.mem_of_getElem? (i := 558) (by decide +kernel)) rfl
theorem k_559 : Cond.code yX2_isIn cX2_isIn 3 (some .boolean) ∈ GW := gw_of (List.mem_of_getElem? (i := 559) (by decide +kernel)) rfl
theorem k_560 : Cond.methodLink "PulseRemote$Decoder" 116 ⟨"PulseRemote$Decoder", "restOfPhaseCode", "(LPulseRemote$Protocol;IJJ)I"⟩ ∈ GW := gw_of (List.mem_of_getElem? (i := 560) (by decide +kernel)) rfl
theorem k_562 : Cond.instanceMethod ⟨"PulseRemote$Decoder", "restOfPhaseCode", "(LPulseRemote$Protocol;IJJ)I"⟩ ∈ GW := gw_of (List.mem_of_getElem? (i := 562) (by decide +kernel)) rfl
theorem k_563 : Cond.code yX2_restOfPhaseCode cX2_restOfPhaseCode 12 (some .int) ∈ GW := gw_of (List.mem_of_getElem? (i := 563) (by decide +kernel)) rfl
theorem k_564 : Cond.methodLink "PulseRemote$Decoder" 100 ⟨"PulseRemote$Protocol", "maskAt", "(I)I"⟩ ∈ GW := gw_of (List.mem_of_getElem? (i := 564) (by decide +kernel)) rfl
theorem k_565 : Cond.instanceMethod ⟨"PulseRemote$Protocol", "maskAt", "(I)I"⟩ ∈ GW := gw_of (List.mem_of_getElem? (i := 565) (by decide +kernel)) rfl
theorem k_566 : Cond.selects "PulseRemote$Protocol" ⟨"PulseRemote$Protocol", "maskAt", "(I)I"⟩ ⟨"PulseRemote$Protocol", "maskAt", "(I)I"⟩ ∈ GW := gw_of (List.mem_of_getElem? (i := 566) (by decide +kernel)) rfl
theorem k_567 : Cond.code yX6_maskAt cX6_maskAt 2 (some .int) ∈ GW := gw_of (List.mem_of_getElem? (i := 567) (by decide +kernel)) rfl
theorem k_568 : Cond.methodLink "PulseRemote$Decoder" 51 ⟨"PulseRemote$Decoder", "plainCode", "(LPulseRemote$Protocol;)I"⟩ ∈ GW := gw_of (List.mem_of_getElem? (i := 568) (by decide +kernel)) rfl
theorem k_570 : Cond.instanceMethod ⟨"PulseRemote$Decoder", "plainCode", "(LPulseRemote$Protocol;)I"⟩ ∈ GW := gw_of (List.mem_of_getElem? (i := 570) (by decide +kernel)) rfl
theorem k_571 : Cond.code yX2_plainCode cX2_plainCode 6 (some .int) ∈ GW := gw_of (List.mem_of_getElem? (i := 571) (by decide +kernel)) rfl
theorem k_572 : Cond.methodLink "PulseRemote$Decoder" 54 ⟨"PulseRemote$Decoder", "protocolOfShortFrame", "(LPulseRemote$Table;)I"⟩ ∈ GW := gw_of (List.mem_of_getElem? (i := 572) (by decide +kernel)) rfl
theorem k_574 : Cond.instanceMethod ⟨"PulseRemote$Decoder", "protocolOfShortFrame", "(LPulseRemote$Table;)I"⟩ ∈ GW := gw_of (List.mem_of_getElem? (i := 574) (by decide +kernel)) rfl
theorem k_575 : Cond.code yX2_protocolOfShortFrame cX2_protocolOfShortFrame 4 (some .int) ∈ GW := gw_of (List.mem_of_getElem? (i := 575) (by decide +kernel)) rfl
theorem k_576 : Cond.methodLink "PulseRemote" 299 ⟨"PulseRemote$Decoder", "isDecoded", "()Z"⟩ ∈ GW := gw_of (List.mem_of_getElem? (i := 576) (by decide +kernel)) rfl
theorem k_577 : Cond.instanceMethod ⟨"PulseRemote$Decoder", "isDecoded", "()Z"⟩ ∈ GW := gw_of (List.mem_of_getElem? (i := 577) (by decide +kernel)) rfl
theorem k_578 : Cond.selects "PulseRemote$Decoder" ⟨"PulseRemote$Decoder", "isDecoded", "()Z"⟩ ⟨"PulseRemote$Decoder", "isDecoded", "()Z"⟩ ∈ GW := gw_of (List.mem_of_getElem? (i := 578) (by decide +kernel)) rfl
theorem k_579 : Cond.code yX2_isDecoded cX2_isDecoded 1 (some .boolean) ∈ GW := gw_of (List.mem_of_getElem? (i := 579) (by decide +kernel)) rfl
theorem k_580 : Cond.methodLink "PulseRemote" 308 ⟨"PulseRemote$Decoder", "isCode", "()Z"⟩ ∈ GW := gw_of (List.mem_of_getElem? (i := 580) (by decide +kernel)) rfl
theorem k_581 : Cond.instanceMethod ⟨"PulseRemote$Decoder", "isCode", "()Z"⟩ ∈ GW := gw_of (List.mem_of_getElem? (i := 581) (by decide +kernel)) rfl
theorem k_582 : Cond.selects "PulseRemote$Decoder" ⟨"PulseRemote$Decoder", "isCode", "()Z"⟩ ⟨"PulseRemote$Decoder", "isCode", "()Z"⟩ ∈ GW := gw_of (List.mem_of_getElem? (i := 582) (by decide +kernel)) rfl
theorem k_583 : Cond.code yX2_isCode cX2_isCode 1 (some .boolean) ∈ GW := gw_of (List.mem_of_getElem? (i := 583) (by decide +kernel)) rfl
theorem k_584 : Cond.methodLink "PulseRemoteLaw" 133 ⟨"PulseRemote", "deviation", "(II)I"⟩ ∈ GW := gw_of (List.mem_of_getElem? (i := 584) (by decide +kernel)) rfl
theorem k_585 : Cond.instanceMethod ⟨"PulseRemote", "deviation", "(II)I"⟩ ∈ GW := gw_of (List.mem_of_getElem? (i := 585) (by decide +kernel)) rfl
theorem k_586 : Cond.selects "PulseRemote" ⟨"PulseRemote", "deviation", "(II)I"⟩ ⟨"PulseRemote", "deviation", "(II)I"⟩ ∈ GW := gw_of (List.mem_of_getElem? (i := 586) (by decide +kernel)) rfl
theorem k_587 : Cond.code yX11_deviation cX11_deviation 4 (some .int) ∈ GW := gw_of (List.mem_of_getElem? (i := 587) (by decide +kernel)) rfl
theorem k_588 : Cond.methodLink "PulseRemote" 102 ⟨"PulseRemote$Table", "protocolAt", "(I)LPulseRemote$Protocol;"⟩ ∈ GW := gw_of (List.mem_of_getElem? (i := 588) (by decide +kernel)) rfl
theorem k_589 : Cond.methodLink "PulseRemote" 248 ⟨"PulseRemote$Protocol", "writeFrame", "(ILPulseRemote$Train;)V"⟩ ∈ GW := gw_of (List.mem_of_getElem? (i := 589) (by decide +kernel)) rfl
theorem k_590 : Cond.instanceMethod ⟨"PulseRemote$Protocol", "writeFrame", "(ILPulseRemote$Train;)V"⟩ ∈ GW := gw_of (List.mem_of_getElem? (i := 590) (by decide +kernel)) rfl
theorem k_591 : Cond.selects "PulseRemote$Protocol" ⟨"PulseRemote$Protocol", "writeFrame", "(ILPulseRemote$Train;)V"⟩ ⟨"PulseRemote$Protocol", "writeFrame", "(ILPulseRemote$Train;)V"⟩ ∈ GW := gw_of (List.mem_of_getElem? (i := 591) (by decide +kernel)) rfl
theorem k_592 : Cond.code yX6_writeFrame cX6_writeFrame 4 none ∈ GW := gw_of (List.mem_of_getElem? (i := 592) (by decide +kernel)) rfl
theorem k_593 : Cond.methodLink "PulseRemote$Protocol" 56 ⟨"PulseRemote$Train", "put", "(I)V"⟩ ∈ GW := gw_of (List.mem_of_getElem? (i := 593) (by decide +kernel)) rfl
theorem k_594 : Cond.instanceMethod ⟨"PulseRemote$Train", "put", "(I)V"⟩ ∈ GW := gw_of (List.mem_of_getElem? (i := 594) (by decide +kernel)) rfl
theorem k_595 : Cond.selects "PulseRemote$Train" ⟨"PulseRemote$Train", "put", "(I)V"⟩ ⟨"PulseRemote$Train", "put", "(I)V"⟩ ∈ GW := gw_of (List.mem_of_getElem? (i := 595) (by decide +kernel)) rfl
theorem k_596 : Cond.code yX10_put cX10_put 2 none ∈ GW := gw_of (List.mem_of_getElem? (i := 596) (by decide +kernel)) rfl
theorem k_597 : Cond.methodLink "PulseRemote$Protocol" 47 ⟨"PulseRemote$Protocol", "maskAt", "(I)I"⟩ ∈ GW := gw_of (List.mem_of_getElem? (i := 597) (by decide +kernel)) rfl
theorem k_598 : Cond.methodLink "PulseRemote$Protocol" 60 ⟨"PulseRemote$Protocol", "writeBit", "(ZILPulseRemote$Train;)V"⟩ ∈ GW := gw_of (List.mem_of_getElem? (i := 598) (by decide +kernel)) rfl
theorem k_600 : Cond.instanceMethod ⟨"PulseRemote$Protocol", "writeBit", "(ZILPulseRemote$Train;)V"⟩ ∈ GW := gw_of (List.mem_of_getElem? (i := 600) (by decide +kernel)) rfl
theorem k_601 : Cond.code yX6_writeBit cX6_writeBit 4 none ∈ GW := gw_of (List.mem_of_getElem? (i := 601) (by decide +kernel)) rfl
theorem k_602 : Cond.methodLink "PulseRemote$Protocol" 68 ⟨"PulseRemote$Train", "join", "(ZI)V"⟩ ∈ GW := gw_of (List.mem_of_getElem? (i := 602) (by decide +kernel)) rfl
theorem k_603 : Cond.instanceMethod ⟨"PulseRemote$Train", "join", "(ZI)V"⟩ ∈ GW := gw_of (List.mem_of_getElem? (i := 603) (by decide +kernel)) rfl
theorem k_604 : Cond.selects "PulseRemote$Train" ⟨"PulseRemote$Train", "join", "(ZI)V"⟩ ⟨"PulseRemote$Train", "join", "(ZI)V"⟩ ∈ GW := gw_of (List.mem_of_getElem? (i := 604) (by decide +kernel)) rfl
theorem k_605 : Cond.code yX10_join cX10_join 3 none ∈ GW := gw_of (List.mem_of_getElem? (i := 605) (by decide +kernel)) rfl
theorem k_606 : Cond.methodLink "PulseRemote$Train" 19 ⟨"PulseRemote$Train", "endsWithMark", "()Z"⟩ ∈ GW := gw_of (List.mem_of_getElem? (i := 606) (by decide +kernel)) rfl
theorem k_607 : Cond.methodLink "PulseRemote$Train" 23 ⟨"PulseRemote$Train", "put", "(I)V"⟩ ∈ GW := gw_of (List.mem_of_getElem? (i := 607) (by decide +kernel)) rfl
theorem k_608 : Cond.methodLink "PulseRemote$Protocol" 64 ⟨"PulseRemote$Train", "endsWithMark", "()Z"⟩ ∈ GW := gw_of (List.mem_of_getElem? (i := 608) (by decide +kernel)) rfl
theorem k_609 : Cond.methodLink "PulseRemote" 256 ⟨"PulseRemote$Protocol", "writeShortFrame", "(LPulseRemote$Train;)V"⟩ ∈ GW := gw_of (List.mem_of_getElem? (i := 609) (by decide +kernel)) rfl
theorem k_610 : Cond.instanceMethod ⟨"PulseRemote$Protocol", "writeShortFrame", "(LPulseRemote$Train;)V"⟩ ∈ GW := gw_of (List.mem_of_getElem? (i := 610) (by decide +kernel)) rfl
theorem k_611 : Cond.selects "PulseRemote$Protocol" ⟨"PulseRemote$Protocol", "writeShortFrame", "(LPulseRemote$Train;)V"⟩ ⟨"PulseRemote$Protocol", "writeShortFrame", "(LPulseRemote$Train;)V"⟩ ∈ GW := gw_of (List.mem_of_getElem? (i := 611) (by decide +kernel)) rfl
theorem k_612 : Cond.code yX6_writeShortFrame cX6_writeShortFrame 2 none ∈ GW := gw_of (List.mem_of_getElem? (i := 612) (by decide +kernel)) rfl
theorem k_613 : Cond.methodLink "PulseRemote" 311 ⟨"PulseRemote", "worstDeviation", "(ILPulseRemote$Train;)I"⟩ ∈ GW := gw_of (List.mem_of_getElem? (i := 613) (by decide +kernel)) rfl
theorem k_615 : Cond.instanceMethod ⟨"PulseRemote", "worstDeviation", "(ILPulseRemote$Train;)I"⟩ ∈ GW := gw_of (List.mem_of_getElem? (i := 615) (by decide +kernel)) rfl
theorem k_616 : Cond.code yX11_worstDeviation cX11_worstDeviation 6 (some .int) ∈ GW := gw_of (List.mem_of_getElem? (i := 616) (by decide +kernel)) rfl
theorem k_617 : Cond.methodLink "PulseRemote" 283 ⟨"PulseRemote$Train", "at", "(I)I"⟩ ∈ GW := gw_of (List.mem_of_getElem? (i := 617) (by decide +kernel)) rfl
theorem k_618 : Cond.methodLink "PulseRemote" 360 ⟨"PulseRemote$FrameList", "durationAt", "(II)I"⟩ ∈ GW := gw_of (List.mem_of_getElem? (i := 618) (by decide +kernel)) rfl
theorem k_619 : Cond.methodLink "PulseRemote" 363 ⟨"java/lang/Math", "abs", "(I)I"⟩ ∈ GW := gw_of (List.mem_of_getElem? (i := 619) (by decide +kernel)) rfl
theorem k_620 : Cond.static Lib.Math.abs.name ∈ GW := gw_of (List.mem_of_getElem? (i := 620) (by decide +kernel)) rfl
theorem k_621 : Cond.code Lib.Math.abs.name Lib.Math.abs.code 1 (some .int) ∈ GW := gw_of (List.mem_of_getElem? (i := 621) (by decide +kernel)) rfl
theorem k_622 : Cond.methodLink "PulseRemote" 368 ⟨"java/lang/Math", "max", "(II)I"⟩ ∈ GW := gw_of (List.mem_of_getElem? (i := 622) (by decide +kernel)) rfl
theorem k_623 : Cond.methodLink "PulseRemoteLaw" 31 ⟨"PulseRemote", "pressCount", "(I)I"⟩ ∈ GW := gw_of (List.mem_of_getElem? (i := 623) (by decide +kernel)) rfl
theorem k_624 : Cond.instanceMethod ⟨"PulseRemote", "pressCount", "(I)I"⟩ ∈ GW := gw_of (List.mem_of_getElem? (i := 624) (by decide +kernel)) rfl
theorem k_625 : Cond.selects "PulseRemote" ⟨"PulseRemote", "pressCount", "(I)I"⟩ ⟨"PulseRemote", "pressCount", "(I)I"⟩ ∈ GW := gw_of (List.mem_of_getElem? (i := 625) (by decide +kernel)) rfl
theorem k_626 : Cond.code yX11_pressCount cX11_pressCount 2 (some .int) ∈ GW := gw_of (List.mem_of_getElem? (i := 626) (by decide +kernel)) rfl
theorem k_627 : Cond.methodLink "PulseRemote" 315 ⟨"PulseRemote$PressList", "find", "(LPulseRemote$State;ILPulseRemote$FrameList;LPulseRemote$Decoder;)V"⟩ ∈ GW := gw_of (List.mem_of_getElem? (i := 627) (by decide +kernel)) rfl
theorem k_628 : Cond.instanceMethod ⟨"PulseRemote$PressList", "find", "(LPulseRemote$State;ILPulseRemote$FrameList;LPulseRemote$Decoder;)V"⟩ ∈ GW := gw_of (List.mem_of_getElem? (i := 628) (by decide +kernel)) rfl
theorem k_629 : Cond.selects "PulseRemote$PressList" ⟨"PulseRemote$PressList", "find", "(LPulseRemote$State;ILPulseRemote$FrameList;LPulseRemote$Decoder;)V"⟩ ⟨"PulseRemote$PressList", "find", "(LPulseRemote$State;ILPulseRemote$FrameList;LPulseRemote$Decoder;)V"⟩ ∈ GW := gw_of (List.mem_of_getElem? (i := 629) (by decide +kernel)) rfl
theorem k_630 : Cond.code yX5_find cX5_find 8 none ∈ GW := gw_of (List.mem_of_getElem? (i := 630) (by decide +kernel)) rfl
theorem k_631 : Cond.methodLink "PulseRemote$PressList" 21 ⟨"PulseRemote$State", "trainAt", "(I)LPulseRemote$Train;"⟩ ∈ GW := gw_of (List.mem_of_getElem? (i := 631) (by decide +kernel)) rfl
theorem k_632 : Cond.methodLink "PulseRemote$PressList" 31 ⟨"PulseRemote$FrameList", "split", "(LPulseRemote$Train;I)V"⟩ ∈ GW := gw_of (List.mem_of_getElem? (i := 632) (by decide +kernel)) rfl
theorem k_633 : Cond.methodLink "PulseRemote$PressList" 53 ⟨"PulseRemote$Decoder", "decode", "(LPulseRemote$Table;LPulseRemote$FrameList;II)V"⟩ ∈ GW := gw_of (List.mem_of_getElem? (i := 633) (by decide +kernel)) rfl
theorem k_634 : Cond.methodLink "PulseRemote$PressList" 59 ⟨"PulseRemote$FrameList", "spaceBefore", "(I)I"⟩ ∈ GW := gw_of (List.mem_of_getElem? (i := 634) (by decide +kernel)) rfl
theorem k_635 : Cond.instanceMethod ⟨"PulseRemote$FrameList", "spaceBefore", "(I)I"⟩ ∈ GW := gw_of (List.mem_of_getElem? (i := 635) (by decide +kernel)) rfl
theorem k_636 : Cond.selects "PulseRemote$FrameList" ⟨"PulseRemote$FrameList", "spaceBefore", "(I)I"⟩ ⟨"PulseRemote$FrameList", "spaceBefore", "(I)I"⟩ ∈ GW := gw_of (List.mem_of_getElem? (i := 636) (by decide +kernel)) rfl
theorem k_637 : Cond.code yX3_spaceBefore cX3_spaceBefore 2 (some .int) ∈ GW := gw_of (List.mem_of_getElem? (i := 637) (by decide +kernel)) rfl
theorem k_638 : Cond.methodLink "PulseRemote$PressList" 66 ⟨"PulseRemote$PressList", "continuesLatest", "(LPulseRemote$Decoder;LPulseRemote$Table;)Z"⟩ ∈ GW := gw_of (List.mem_of_getElem? (i := 638) (by decide +kernel)) rfl
theorem k_640 : Cond.instanceMethod ⟨"PulseRemote$PressList", "continuesLatest", "(LPulseRemote$Decoder;LPulseRemote$Table;)Z"⟩ ∈ GW := gw_of (List.mem_of_getElem? (i := 640) (by decide +kernel)) rfl
theorem k_641 : Cond.code yX5_continuesLatest cX5_continuesLatest 3 (some .boolean) ∈ GW := gw_of (List.mem_of_getElem? (i := 641) (by decide +kernel)) rfl
theorem k_642 : Cond.methodLink "PulseRemote$PressList" 81 ⟨"PulseRemote$Decoder", "isDecoded", "()Z"⟩ ∈ GW := gw_of (List.mem_of_getElem? (i := 642) (by decide +kernel)) rfl
theorem k_643 : Cond.methodLink "PulseRemote$PressList" 73 ⟨"PulseRemote$Decoder", "isCode", "()Z"⟩ ∈ GW := gw_of (List.mem_of_getElem? (i := 643) (by decide +kernel)) rfl
theorem k_644 : Cond.methodLink "PulseRemote$PressList" 96 ⟨"PulseRemote$Table", "protocolAt", "(I)LPulseRemote$Protocol;"⟩ ∈ GW := gw_of (List.mem_of_getElem? (i := 644) (by decide +kernel)) rfl
theorem k_645 : Cond.methodLink "PulseRemote$PressList" 70 ⟨"PulseRemote$PressList", "countLatest", "()V"⟩ ∈ GW := gw_of (List.mem_of_getElem? (i := 645) (by decide +kernel)) rfl
theorem k_647 : Cond.instanceMethod ⟨"PulseRemote$PressList", "countLatest", "()V"⟩ ∈ GW := gw_of (List.mem_of_getElem? (i := 647) (by decide +kernel)) rfl
theorem k_648 : Cond.code yX5_countLatest cX5_countLatest 1 none ∈ GW := gw_of (List.mem_of_getElem? (i := 648) (by decide +kernel)) rfl
theorem k_649 : Cond.methodLink "PulseRemote$PressList" 77 ⟨"PulseRemote$PressList", "begin", "(LPulseRemote$Decoder;)V"⟩ ∈ GW := gw_of (List.mem_of_getElem? (i := 649) (by decide +kernel)) rfl
theorem k_651 : Cond.instanceMethod ⟨"PulseRemote$PressList", "begin", "(LPulseRemote$Decoder;)V"⟩ ∈ GW := gw_of (List.mem_of_getElem? (i := 651) (by decide +kernel)) rfl
theorem k_652 : Cond.code yX5_begin cX5_begin 2 none ∈ GW := gw_of (List.mem_of_getElem? (i := 652) (by decide +kernel)) rfl
theorem k_653 : Cond.methodLink "PulseRemoteLaw" 127 ⟨"PulseRemote", "press", "(III)I"⟩ ∈ GW := gw_of (List.mem_of_getElem? (i := 653) (by decide +kernel)) rfl
theorem k_654 : Cond.instanceMethod ⟨"PulseRemote", "press", "(III)I"⟩ ∈ GW := gw_of (List.mem_of_getElem? (i := 654) (by decide +kernel)) rfl
theorem k_655 : Cond.selects "PulseRemote" ⟨"PulseRemote", "press", "(III)I"⟩ ⟨"PulseRemote", "press", "(III)I"⟩ ∈ GW := gw_of (List.mem_of_getElem? (i := 655) (by decide +kernel)) rfl
theorem k_656 : Cond.code yX11_press cX11_press 4 (some .int) ∈ GW := gw_of (List.mem_of_getElem? (i := 656) (by decide +kernel)) rfl
theorem k_657 : Cond.methodLink "PulseRemote" 332 ⟨"PulseRemote$Table", "findButtonOf", "(II)I"⟩ ∈ GW := gw_of (List.mem_of_getElem? (i := 657) (by decide +kernel)) rfl
theorem k_658 : Cond.instanceMethod ⟨"PulseRemote$Table", "findButtonOf", "(II)I"⟩ ∈ GW := gw_of (List.mem_of_getElem? (i := 658) (by decide +kernel)) rfl
theorem k_659 : Cond.selects "PulseRemote$Table" ⟨"PulseRemote$Table", "findButtonOf", "(II)I"⟩ ⟨"PulseRemote$Table", "findButtonOf", "(II)I"⟩ ∈ GW := gw_of (List.mem_of_getElem? (i := 659) (by decide +kernel)) rfl
theorem k_660 : Cond.code yX8_findButtonOf cX8_findButtonOf 3 (some .int) ∈ GW := gw_of (List.mem_of_getElem? (i := 660) (by decide +kernel)) rfl
theorem k_661 : Cond.methodLink "PulseRemote$Table" 42 ⟨"PulseRemote$Table", "protocolAt", "(I)LPulseRemote$Protocol;"⟩ ∈ GW := gw_of (List.mem_of_getElem? (i := 661) (by decide +kernel)) rfl
theorem k_662 : Cond.methodLink "PulseRemote$Table" 65 ⟨"PulseRemote$Protocol", "identityOf", "(I)I"⟩ ∈ GW := gw_of (List.mem_of_getElem? (i := 662) (by decide +kernel)) rfl
theorem k_663 : Cond.instanceMethod ⟨"PulseRemote$Protocol", "identityOf", "(I)I"⟩ ∈ GW := gw_of (List.mem_of_getElem? (i := 663) (by decide +kernel)) rfl
theorem k_664 : Cond.selects "PulseRemote$Protocol" ⟨"PulseRemote$Protocol", "identityOf", "(I)I"⟩ ⟨"PulseRemote$Protocol", "identityOf", "(I)I"⟩ ∈ GW := gw_of (List.mem_of_getElem? (i := 664) (by decide +kernel)) rfl
theorem k_665 : Cond.code yX6_identityOf cX6_identityOf 2 (some .int) ∈ GW := gw_of (List.mem_of_getElem? (i := 665) (by decide +kernel)) rfl
theorem k_666 : Cond.methodLink "PulseRemote$Table" 68 ⟨"PulseRemote$Table", "findButton", "(II)I"⟩ ∈ GW := gw_of (List.mem_of_getElem? (i := 666) (by decide +kernel)) rfl
theorem k_667 : Cond.instanceMethod ⟨"PulseRemote$Table", "findButton", "(II)I"⟩ ∈ GW := gw_of (List.mem_of_getElem? (i := 667) (by decide +kernel)) rfl
theorem k_668 : Cond.selects "PulseRemote$Table" ⟨"PulseRemote$Table", "findButton", "(II)I"⟩ ⟨"PulseRemote$Table", "findButton", "(II)I"⟩ ∈ GW := gw_of (List.mem_of_getElem? (i := 668) (by decide +kernel)) rfl
theorem k_669 : Cond.code yX8_findButton cX8_findButton 4 (some .int) ∈ GW := gw_of (List.mem_of_getElem? (i := 669) (by decide +kernel)) rfl
theorem k_670 : Cond.methodLink "PulseRemote$Table" 58 ⟨"PulseRemote$Table", "protocolOfButton", "(I)I"⟩ ∈ GW := gw_of (List.mem_of_getElem? (i := 670) (by decide +kernel)) rfl
theorem k_671 : Cond.instanceMethod ⟨"PulseRemote$Table", "protocolOfButton", "(I)I"⟩ ∈ GW := gw_of (List.mem_of_getElem? (i := 671) (by decide +kernel)) rfl
theorem k_672 : Cond.selects "PulseRemote$Table" ⟨"PulseRemote$Table", "protocolOfButton", "(I)I"⟩ ⟨"PulseRemote$Table", "protocolOfButton", "(I)I"⟩ ∈ GW := gw_of (List.mem_of_getElem? (i := 672) (by decide +kernel)) rfl
theorem k_673 : Cond.code yX8_protocolOfButton cX8_protocolOfButton 2 (some .int) ∈ GW := gw_of (List.mem_of_getElem? (i := 673) (by decide +kernel)) rfl
theorem k_674 : Cond.methodLink "PulseRemote$Table" 54 ⟨"PulseRemote$Table", "hasButton", "(I)Z"⟩ ∈ GW := gw_of (List.mem_of_getElem? (i := 674) (by decide +kernel)) rfl
theorem k_675 : Cond.instanceMethod ⟨"PulseRemote$Table", "hasButton", "(I)Z"⟩ ∈ GW := gw_of (List.mem_of_getElem? (i := 675) (by decide +kernel)) rfl
theorem k_676 : Cond.selects "PulseRemote$Table" ⟨"PulseRemote$Table", "hasButton", "(I)Z"⟩ ⟨"PulseRemote$Table", "hasButton", "(I)Z"⟩ ∈ GW := gw_of (List.mem_of_getElem? (i := 676) (by decide +kernel)) rfl
theorem k_677 : Cond.code yX8_hasButton cX8_hasButton 2 (some .boolean) ∈ GW := gw_of (List.mem_of_getElem? (i := 677) (by decide +kernel)) rfl
theorem k_678 : Cond.methodLink "PulseRemote$Table" 62 ⟨"PulseRemote$Table", "identityOfButton", "(I)I"⟩ ∈ GW := gw_of (List.mem_of_getElem? (i := 678) (by decide +kernel)) rfl
theorem k_679 : Cond.instanceMethod ⟨"PulseRemote$Table", "identityOfButton", "(I)I"⟩ ∈ GW := gw_of (List.mem_of_getElem? (i := 679) (by decide +kernel)) rfl
theorem k_680 : Cond.selects "PulseRemote$Table" ⟨"PulseRemote$Table", "identityOfButton", "(I)I"⟩ ⟨"PulseRemote$Table", "identityOfButton", "(I)I"⟩ ∈ GW := gw_of (List.mem_of_getElem? (i := 680) (by decide +kernel)) rfl
theorem k_681 : Cond.code yX8_identityOfButton cX8_identityOfButton 2 (some .int) ∈ GW := gw_of (List.mem_of_getElem? (i := 681) (by decide +kernel)) rfl
theorem k_682 : Cond.methodLink "PulseRemoteLaw" 36 ⟨"PulseRemote", "strayCount", "(I)I"⟩ ∈ GW := gw_of (List.mem_of_getElem? (i := 682) (by decide +kernel)) rfl
theorem k_683 : Cond.instanceMethod ⟨"PulseRemote", "strayCount", "(I)I"⟩ ∈ GW := gw_of (List.mem_of_getElem? (i := 683) (by decide +kernel)) rfl
theorem k_684 : Cond.selects "PulseRemote" ⟨"PulseRemote", "strayCount", "(I)I"⟩ ⟨"PulseRemote", "strayCount", "(I)I"⟩ ∈ GW := gw_of (List.mem_of_getElem? (i := 684) (by decide +kernel)) rfl
theorem k_685 : Cond.code yX11_strayCount cX11_strayCount 2 (some .int) ∈ GW := gw_of (List.mem_of_getElem? (i := 685) (by decide +kernel)) rfl
theorem k_686 : Cond.methodLink "PulseRemoteLaw" 46 ⟨"PulseRemote", "neededTolerance", "(I)I"⟩ ∈ GW := gw_of (List.mem_of_getElem? (i := 686) (by decide +kernel)) rfl
theorem k_687 : Cond.instanceMethod ⟨"PulseRemote", "neededTolerance", "(I)I"⟩ ∈ GW := gw_of (List.mem_of_getElem? (i := 687) (by decide +kernel)) rfl
theorem k_688 : Cond.selects "PulseRemote" ⟨"PulseRemote", "neededTolerance", "(I)I"⟩ ⟨"PulseRemote", "neededTolerance", "(I)I"⟩ ∈ GW := gw_of (List.mem_of_getElem? (i := 688) (by decide +kernel)) rfl
theorem k_689 : Cond.code yX11_neededTolerance cX11_neededTolerance 4 (some .int) ∈ GW := gw_of (List.mem_of_getElem? (i := 689) (by decide +kernel)) rfl
theorem k_690 : Cond.methodLink "PulseRemote" 338 ⟨"PulseRemote", "toleranceFor", "(II)I"⟩ ∈ GW := gw_of (List.mem_of_getElem? (i := 690) (by decide +kernel)) rfl
theorem k_692 : Cond.instanceMethod ⟨"PulseRemote", "toleranceFor", "(II)I"⟩ ∈ GW := gw_of (List.mem_of_getElem? (i := 692) (by decide +kernel)) rfl
theorem k_693 : Cond.code yX11_toleranceFor cX11_toleranceFor 4 (some .int) ∈ GW := gw_of (List.mem_of_getElem? (i := 693) (by decide +kernel)) rfl
theorem k_694 : Cond.methodLink "PulseRemoteLaw" 123 ⟨"PulseRemote", "undo", "()I"⟩ ∈ GW := gw_of (List.mem_of_getElem? (i := 694) (by decide +kernel)) rfl
theorem k_695 : Cond.instanceMethod ⟨"PulseRemote", "undo", "()I"⟩ ∈ GW := gw_of (List.mem_of_getElem? (i := 695) (by decide +kernel)) rfl
theorem k_696 : Cond.selects "PulseRemote" ⟨"PulseRemote", "undo", "()I"⟩ ⟨"PulseRemote", "undo", "()I"⟩ ∈ GW := gw_of (List.mem_of_getElem? (i := 696) (by decide +kernel)) rfl
theorem k_697 : Cond.code yX11_undo cX11_undo 2 (some .int) ∈ GW := gw_of (List.mem_of_getElem? (i := 697) (by decide +kernel)) rfl
theorem k_698 : Cond.methodLink "PulseRemoteLaw" 111 ⟨"PulseRemoteLaw", "cell", "([II)I"⟩ ∈ GW := gw_of (List.mem_of_getElem? (i := 698) (by decide +kernel)) rfl
theorem k_699 : Cond.static ⟨"PulseRemoteLaw", "cell", "([II)I"⟩ ∈ GW := gw_of (List.mem_of_getElem? (i := 699) (by decide +kernel)) rfl
theorem k_700 : Cond.code yL_cell cL_cell 2 (some .int) ∈ GW := gw_of (List.mem_of_getElem? (i := 700) (by decide +kernel)) rfl
theorem k_701 : Cond.methodLink "PulseRemoteLaw" 61 ⟨"PulseRemoteLaw", "low", "(II)I"⟩ ∈ GW := gw_of (List.mem_of_getElem? (i := 701) (by decide +kernel)) rfl
theorem k_702 : Cond.static ⟨"PulseRemoteLaw", "low", "(II)I"⟩ ∈ GW := gw_of (List.mem_of_getElem? (i := 702) (by decide +kernel)) rfl
theorem k_703 : Cond.code yL_low cL_low 2 (some .int) ∈ GW := gw_of (List.mem_of_getElem? (i := 703) (by decide +kernel)) rfl
theorem k_704 : Cond.constant "PulseRemoteLaw" 7 (2147483647 : Int32) ∈ GW := gw_of (List.mem_of_getElem? (i := 704) (by decide +kernel)) rfl
theorem k_705 : Cond.methodLink "PulseRemoteLaw" 115 ⟨"PulseRemoteLaw", "tale", "(LPulseRemote;)J"⟩ ∈ GW := gw_of (List.mem_of_getElem? (i := 705) (by decide +kernel)) rfl
theorem k_706 : Cond.static ⟨"PulseRemoteLaw", "tale", "(LPulseRemote;)J"⟩ ∈ GW := gw_of (List.mem_of_getElem? (i := 706) (by decide +kernel)) rfl
theorem k_707 : Cond.code yL_tale cL_tale 5 (some .long) ∈ GW := gw_of (List.mem_of_getElem? (i := 707) (by decide +kernel)) rfl
theorem k_708 : Cond.constantLong "PulseRemoteLaw" 8 (3 : Int64) ∈ GW := gw_of (List.mem_of_getElem? (i := 708) (by decide +kernel)) rfl
theorem k_709 : Cond.constantLong "PulseRemoteLaw" 16 (7 : Int64) ∈ GW := gw_of (List.mem_of_getElem? (i := 709) (by decide +kernel)) rfl
theorem k_710 : Cond.constantLong "PulseRemoteLaw" 18 (31 : Int64) ∈ GW := gw_of (List.mem_of_getElem? (i := 710) (by decide +kernel)) rfl
theorem k_711 : Cond.methodLink "PulseRemoteLaw" 20 ⟨"PulseRemote", "length", "(I)I"⟩ ∈ GW := gw_of (List.mem_of_getElem? (i := 711) (by decide +kernel)) rfl
theorem k_712 : Cond.instanceMethod ⟨"PulseRemote", "length", "(I)I"⟩ ∈ GW := gw_of (List.mem_of_getElem? (i := 712) (by decide +kernel)) rfl
theorem k_713 : Cond.selects "PulseRemote" ⟨"PulseRemote", "length", "(I)I"⟩ ⟨"PulseRemote", "length", "(I)I"⟩ ∈ GW := gw_of (List.mem_of_getElem? (i := 713) (by decide +kernel)) rfl
theorem k_714 : Cond.code yX11_length cX11_length 2 (some .int) ∈ GW := gw_of (List.mem_of_getElem? (i := 714) (by decide +kernel)) rfl
theorem k_715 : Cond.constantLong "PulseRemoteLaw" 23 (37 : Int64) ∈ GW := gw_of (List.mem_of_getElem? (i := 715) (by decide +kernel)) rfl
theorem k_716 : Cond.methodLink "PulseRemoteLaw" 25 ⟨"PulseRemote", "duration", "(II)I"⟩ ∈ GW := gw_of (List.mem_of_getElem? (i := 716) (by decide +kernel)) rfl
theorem k_717 : Cond.instanceMethod ⟨"PulseRemote", "duration", "(II)I"⟩ ∈ GW := gw_of (List.mem_of_getElem? (i := 717) (by decide +kernel)) rfl
theorem k_718 : Cond.selects "PulseRemote" ⟨"PulseRemote", "duration", "(II)I"⟩ ⟨"PulseRemote", "duration", "(II)I"⟩ ∈ GW := gw_of (List.mem_of_getElem? (i := 718) (by decide +kernel)) rfl
theorem k_719 : Cond.code yX11_duration cX11_duration 4 (some .int) ∈ GW := gw_of (List.mem_of_getElem? (i := 719) (by decide +kernel)) rfl
theorem k_720 : Cond.constantLong "PulseRemoteLaw" 29 (41 : Int64) ∈ GW := gw_of (List.mem_of_getElem? (i := 720) (by decide +kernel)) rfl
theorem k_721 : Cond.constantLong "PulseRemoteLaw" 34 (5 : Int64) ∈ GW := gw_of (List.mem_of_getElem? (i := 721) (by decide +kernel)) rfl
theorem k_722 : Cond.constantLong "PulseRemoteLaw" 39 (11 : Int64) ∈ GW := gw_of (List.mem_of_getElem? (i := 722) (by decide +kernel)) rfl
theorem k_723 : Cond.constantLong "PulseRemoteLaw" 44 (13 : Int64) ∈ GW := gw_of (List.mem_of_getElem? (i := 723) (by decide +kernel)) rfl
theorem k_724 : Cond.constantLong "PulseRemoteLaw" 49 (43 : Int64) ∈ GW := gw_of (List.mem_of_getElem? (i := 724) (by decide +kernel)) rfl
theorem k_725 : Cond.methodLink "PulseRemoteLaw" 51 ⟨"PulseRemote", "protocol", "(II)I"⟩ ∈ GW := gw_of (List.mem_of_getElem? (i := 725) (by decide +kernel)) rfl
theorem k_726 : Cond.instanceMethod ⟨"PulseRemote", "protocol", "(II)I"⟩ ∈ GW := gw_of (List.mem_of_getElem? (i := 726) (by decide +kernel)) rfl
theorem k_727 : Cond.selects "PulseRemote" ⟨"PulseRemote", "protocol", "(II)I"⟩ ⟨"PulseRemote", "protocol", "(II)I"⟩ ∈ GW := gw_of (List.mem_of_getElem? (i := 727) (by decide +kernel)) rfl
theorem k_728 : Cond.code yX11_protocol cX11_protocol 4 (some .int) ∈ GW := gw_of (List.mem_of_getElem? (i := 728) (by decide +kernel)) rfl
theorem k_729 : Cond.methodLink "PulseRemote" 98 ⟨"PulseRemote$Table", "hasProtocol", "(I)Z"⟩ ∈ GW := gw_of (List.mem_of_getElem? (i := 729) (by decide +kernel)) rfl
theorem k_730 : Cond.instanceMethod ⟨"PulseRemote$Table", "hasProtocol", "(I)Z"⟩ ∈ GW := gw_of (List.mem_of_getElem? (i := 730) (by decide +kernel)) rfl
theorem k_731 : Cond.selects "PulseRemote$Table" ⟨"PulseRemote$Table", "hasProtocol", "(I)Z"⟩ ⟨"PulseRemote$Table", "hasProtocol", "(I)Z"⟩ ∈ GW := gw_of (List.mem_of_getElem? (i := 731) (by decide +kernel)) rfl
theorem k_732 : Cond.code yX8_hasProtocol cX8_hasProtocol 2 (some .boolean) ∈ GW := gw_of (List.mem_of_getElem? (i := 732) (by decide +kernel)) rfl
theorem k_733 : Cond.constantLong "PulseRemoteLaw" 54 (47 : Int64) ∈ GW := gw_of (List.mem_of_getElem? (i := 733) (by decide +kernel)) rfl
theorem k_734 : Cond.methodLink "PulseRemoteLaw" 56 ⟨"PulseRemote", "button", "(II)I"⟩ ∈ GW := gw_of (List.mem_of_getElem? (i := 734) (by decide +kernel)) rfl
theorem k_735 : Cond.instanceMethod ⟨"PulseRemote", "button", "(II)I"⟩ ∈ GW := gw_of (List.mem_of_getElem? (i := 735) (by decide +kernel)) rfl
theorem k_736 : Cond.selects "PulseRemote" ⟨"PulseRemote", "button", "(II)I"⟩ ⟨"PulseRemote", "button", "(II)I"⟩ ∈ GW := gw_of (List.mem_of_getElem? (i := 736) (by decide +kernel)) rfl
theorem k_737 : Cond.code yX11_button cX11_button 3 (some .int) ∈ GW := gw_of (List.mem_of_getElem? (i := 737) (by decide +kernel)) rfl
theorem k_738 : Cond.methodLink "PulseRemote" 213 ⟨"PulseRemote$Table", "hasButton", "(I)Z"⟩ ∈ GW := gw_of (List.mem_of_getElem? (i := 738) (by decide +kernel)) rfl
theorem k_739 : Cond.methodLink "PulseRemote" 216 ⟨"PulseRemote$Table", "protocolOfButton", "(I)I"⟩ ∈ GW := gw_of (List.mem_of_getElem? (i := 739) (by decide +kernel)) rfl
theorem k_740 : Cond.methodLink "PulseRemote" 219 ⟨"PulseRemote$Table", "identityOfButton", "(I)I"⟩ ∈ GW := gw_of (List.mem_of_getElem? (i := 740) (by decide +kernel)) rfl
theorem k_741 : Cond.constantLong "PulseRemoteLaw" 59 (17 : Int64) ∈ GW := gw_of (List.mem_of_getElem? (i := 741) (by decide +kernel)) rfl
theorem k_742 : Cond.methodLink "PulseRemoteLaw" 119 ⟨"PulseRemoteLaw", "does", "(LPulseRemote;I)I"⟩ ∈ GW := gw_of (List.mem_of_getElem? (i := 742) (by decide +kernel)) rfl
theorem k_743 : Cond.static ⟨"PulseRemoteLaw", "does", "(LPulseRemote;I)I"⟩ ∈ GW := gw_of (List.mem_of_getElem? (i := 743) (by decide +kernel)) rfl
theorem k_744 : Cond.code yL_does cL_does 3 (some .int) ∈ GW := gw_of (List.mem_of_getElem? (i := 744) (by decide +kernel)) rfl
theorem k_745 : Cond.methodLink "PulseRemoteLaw" 66 ⟨"PulseRemote", "addProtocol", "(IIII)I"⟩ ∈ GW := gw_of (List.mem_of_getElem? (i := 745) (by decide +kernel)) rfl
theorem k_746 : Cond.instanceMethod ⟨"PulseRemote", "addProtocol", "(IIII)I"⟩ ∈ GW := gw_of (List.mem_of_getElem? (i := 746) (by decide +kernel)) rfl
theorem k_747 : Cond.selects "PulseRemote" ⟨"PulseRemote", "addProtocol", "(IIII)I"⟩ ⟨"PulseRemote", "addProtocol", "(IIII)I"⟩ ∈ GW := gw_of (List.mem_of_getElem? (i := 747) (by decide +kernel)) rfl
theorem k_748 : Cond.code yX11_addProtocol cX11_addProtocol 5 (some .int) ∈ GW := gw_of (List.mem_of_getElem? (i := 748) (by decide +kernel)) rfl
theorem k_749 : Cond.methodLink "PulseRemote" 87 ⟨"PulseRemote$Table", "protocolsFull", "()Z"⟩ ∈ GW := gw_of (List.mem_of_getElem? (i := 749) (by decide +kernel)) rfl
theorem k_750 : Cond.instanceMethod ⟨"PulseRemote$Table", "protocolsFull", "()Z"⟩ ∈ GW := gw_of (List.mem_of_getElem? (i := 750) (by decide +kernel)) rfl
theorem k_751 : Cond.selects "PulseRemote$Table" ⟨"PulseRemote$Table", "protocolsFull", "()Z"⟩ ⟨"PulseRemote$Table", "protocolsFull", "()Z"⟩ ∈ GW := gw_of (List.mem_of_getElem? (i := 751) (by decide +kernel)) rfl
theorem k_752 : Cond.code yX8_protocolsFull cX8_protocolsFull 1 (some .boolean) ∈ GW := gw_of (List.mem_of_getElem? (i := 752) (by decide +kernel)) rfl
theorem k_753 : Cond.methodLink "PulseRemote" 94 ⟨"PulseRemote$Table", "newProtocol", "(IIII)I"⟩ ∈ GW := gw_of (List.mem_of_getElem? (i := 753) (by decide +kernel)) rfl
theorem k_754 : Cond.instanceMethod ⟨"PulseRemote$Table", "newProtocol", "(IIII)I"⟩ ∈ GW := gw_of (List.mem_of_getElem? (i := 754) (by decide +kernel)) rfl
theorem k_755 : Cond.selects "PulseRemote$Table" ⟨"PulseRemote$Table", "newProtocol", "(IIII)I"⟩ ⟨"PulseRemote$Table", "newProtocol", "(IIII)I"⟩ ∈ GW := gw_of (List.mem_of_getElem? (i := 755) (by decide +kernel)) rfl
theorem k_756 : Cond.code yX8_newProtocol cX8_newProtocol 6 (some .int) ∈ GW := gw_of (List.mem_of_getElem? (i := 756) (by decide +kernel)) rfl
theorem k_757 : Cond.methodLink "PulseRemote$Table" 46 ⟨"PulseRemote$Protocol", "useShape", "(IIII)V"⟩ ∈ GW := gw_of (List.mem_of_getElem? (i := 757) (by decide +kernel)) rfl
theorem k_758 : Cond.methodLink "PulseRemote$Table" 50 ⟨"PulseRemote$Protocol", "useLengths", "(IIIII)V"⟩ ∈ GW := gw_of (List.mem_of_getElem? (i := 758) (by decide +kernel)) rfl
theorem k_759 : Cond.methodLink "PulseRemoteLaw" 70 ⟨"PulseRemote", "setLengths", "(IIIIII)I"⟩ ∈ GW := gw_of (List.mem_of_getElem? (i := 759) (by decide +kernel)) rfl
theorem k_760 : Cond.instanceMethod ⟨"PulseRemote", "setLengths", "(IIIIII)I"⟩ ∈ GW := gw_of (List.mem_of_getElem? (i := 760) (by decide +kernel)) rfl
theorem k_761 : Cond.selects "PulseRemote" ⟨"PulseRemote", "setLengths", "(IIIIII)I"⟩ ⟨"PulseRemote", "setLengths", "(IIIIII)I"⟩ ∈ GW := gw_of (List.mem_of_getElem? (i := 761) (by decide +kernel)) rfl
theorem k_762 : Cond.code yX11_setLengths cX11_setLengths 9 (some .int) ∈ GW := gw_of (List.mem_of_getElem? (i := 762) (by decide +kernel)) rfl
theorem k_763 : Cond.methodLink "PulseRemote" 112 ⟨"PulseRemote", "lengthsPossible", "(IIIIII)Z"⟩ ∈ GW := gw_of (List.mem_of_getElem? (i := 763) (by decide +kernel)) rfl
theorem k_764 : Cond.static ⟨"PulseRemote", "lengthsPossible", "(IIIIII)Z"⟩ ∈ GW := gw_of (List.mem_of_getElem? (i := 764) (by decide +kernel)) rfl
theorem k_765 : Cond.code yX11_lengthsPossible cX11_lengthsPossible 6 (some .boolean) ∈ GW := gw_of (List.mem_of_getElem? (i := 765) (by decide +kernel)) rfl
theorem k_766 : Cond.methodLink "PulseRemote" 354 ⟨"PulseRemote", "isLength", "(I)Z"⟩ ∈ GW := gw_of (List.mem_of_getElem? (i := 766) (by decide +kernel)) rfl
theorem k_767 : Cond.static ⟨"PulseRemote", "isLength", "(I)Z"⟩ ∈ GW := gw_of (List.mem_of_getElem? (i := 767) (by decide +kernel)) rfl
theorem k_768 : Cond.code yX11_isLength cX11_isLength 1 (some .boolean) ∈ GW := gw_of (List.mem_of_getElem? (i := 768) (by decide +kernel)) rfl
theorem k_769 : Cond.methodLink "PulseRemote" 119 ⟨"PulseRemote$Protocol", "useLengths", "(IIIII)V"⟩ ∈ GW := gw_of (List.mem_of_getElem? (i := 769) (by decide +kernel)) rfl
theorem k_770 : Cond.methodLink "PulseRemoteLaw" 74 ⟨"PulseRemote", "addButton", "(II)I"⟩ ∈ GW := gw_of (List.mem_of_getElem? (i := 770) (by decide +kernel)) rfl
theorem k_771 : Cond.instanceMethod ⟨"PulseRemote", "addButton", "(II)I"⟩ ∈ GW := gw_of (List.mem_of_getElem? (i := 771) (by decide +kernel)) rfl
theorem k_772 : Cond.selects "PulseRemote" ⟨"PulseRemote", "addButton", "(II)I"⟩ ⟨"PulseRemote", "addButton", "(II)I"⟩ ∈ GW := gw_of (List.mem_of_getElem? (i := 772) (by decide +kernel)) rfl
theorem k_773 : Cond.code yX11_addButton cX11_addButton 5 (some .int) ∈ GW := gw_of (List.mem_of_getElem? (i := 773) (by decide +kernel)) rfl
theorem k_774 : Cond.methodLink "PulseRemote" 196 ⟨"PulseRemote$Protocol", "hasCode", "(I)Z"⟩ ∈ GW := gw_of (List.mem_of_getElem? (i := 774) (by decide +kernel)) rfl
theorem k_775 : Cond.instanceMethod ⟨"PulseRemote$Protocol", "hasCode", "(I)Z"⟩ ∈ GW := gw_of (List.mem_of_getElem? (i := 775) (by decide +kernel)) rfl
theorem k_776 : Cond.selects "PulseRemote$Protocol" ⟨"PulseRemote$Protocol", "hasCode", "(I)Z"⟩ ⟨"PulseRemote$Protocol", "hasCode", "(I)Z"⟩ ∈ GW := gw_of (List.mem_of_getElem? (i := 776) (by decide +kernel)) rfl
theorem k_777 : Cond.code yX6_hasCode cX6_hasCode 2 (some .boolean) ∈ GW := gw_of (List.mem_of_getElem? (i := 777) (by decide +kernel)) rfl
theorem k_778 : Cond.methodLink "PulseRemote" 199 ⟨"PulseRemote$Protocol", "identityOf", "(I)I"⟩ ∈ GW := gw_of (List.mem_of_getElem? (i := 778) (by decide +kernel)) rfl
theorem k_779 : Cond.methodLink "PulseRemote" 203 ⟨"PulseRemote$Table", "findButton", "(II)I"⟩ ∈ GW := gw_of (List.mem_of_getElem? (i := 779) (by decide +kernel)) rfl
theorem k_780 : Cond.methodLink "PulseRemote" 207 ⟨"PulseRemote$Table", "buttonsFull", "()Z"⟩ ∈ GW := gw_of (List.mem_of_getElem? (i := 780) (by decide +kernel)) rfl
theorem k_781 : Cond.instanceMethod ⟨"PulseRemote$Table", "buttonsFull", "()Z"⟩ ∈ GW := gw_of (List.mem_of_getElem? (i := 781) (by decide +kernel)) rfl
theorem k_782 : Cond.selects "PulseRemote$Table" ⟨"PulseRemote$Table", "buttonsFull", "()Z"⟩ ⟨"PulseRemote$Table", "buttonsFull", "()Z"⟩ ∈ GW := gw_of (List.mem_of_getElem? (i := 782) (by decide +kernel)) rfl
theorem k_783 : Cond.code yX8_buttonsFull cX8_buttonsFull 1 (some .boolean) ∈ GW := gw_of (List.mem_of_getElem? (i := 783) (by decide +kernel)) rfl
theorem k_784 : Cond.methodLink "PulseRemote" 210 ⟨"PulseRemote$Table", "newButton", "(II)I"⟩ ∈ GW := gw_of (List.mem_of_getElem? (i := 784) (by decide +kernel)) rfl
theorem k_785 : Cond.instanceMethod ⟨"PulseRemote$Table", "newButton", "(II)I"⟩ ∈ GW := gw_of (List.mem_of_getElem? (i := 785) (by decide +kernel)) rfl
theorem k_786 : Cond.selects "PulseRemote$Table" ⟨"PulseRemote$Table", "newButton", "(II)I"⟩ ⟨"PulseRemote$Table", "newButton", "(II)I"⟩ ∈ GW := gw_of (List.mem_of_getElem? (i := 786) (by decide +kernel)) rfl
theorem k_787 : Cond.code yX8_newButton cX8_newButton 3 (some .int) ∈ GW := gw_of (List.mem_of_getElem? (i := 787) (by decide +kernel)) rfl
theorem k_788 : Cond.methodLink "PulseRemoteLaw" 77 ⟨"PulseRemote", "learn", "(I)I"⟩ ∈ GW := gw_of (List.mem_of_getElem? (i := 788) (by decide +kernel)) rfl
theorem k_789 : Cond.instanceMethod ⟨"PulseRemote", "learn", "(I)I"⟩ ∈ GW := gw_of (List.mem_of_getElem? (i := 789) (by decide +kernel)) rfl
theorem k_790 : Cond.selects "PulseRemote" ⟨"PulseRemote", "learn", "(I)I"⟩ ⟨"PulseRemote", "learn", "(I)I"⟩ ∈ GW := gw_of (List.mem_of_getElem? (i := 790) (by decide +kernel)) rfl
theorem k_791 : Cond.code yX11_learn cX11_learn 3 (some .int) ∈ GW := gw_of (List.mem_of_getElem? (i := 791) (by decide +kernel)) rfl
theorem k_792 : Cond.methodLink "PulseRemote" 170 ⟨"PulseRemote$Learner", "gather", "(LPulseRemote$FrameList;)Z"⟩ ∈ GW := gw_of (List.mem_of_getElem? (i := 792) (by decide +kernel)) rfl
theorem k_793 : Cond.instanceMethod ⟨"PulseRemote$Learner", "gather", "(LPulseRemote$FrameList;)Z"⟩ ∈ GW := gw_of (List.mem_of_getElem? (i := 793) (by decide +kernel)) rfl
theorem k_794 : Cond.selects "PulseRemote$Learner" ⟨"PulseRemote$Learner", "gather", "(LPulseRemote$FrameList;)Z"⟩ ⟨"PulseRemote$Learner", "gather", "(LPulseRemote$FrameList;)Z"⟩ ∈ GW := gw_of (List.mem_of_getElem? (i := 794) (by decide +kernel)) rfl
theorem k_795 : Cond.code yX4_gather cX4_gather 6 (some .boolean) ∈ GW := gw_of (List.mem_of_getElem? (i := 795) (by decide +kernel)) rfl
theorem k_796 : Cond.methodLink "PulseRemote$Learner" 21 ⟨"PulseRemote$FrameList", "sizeOf", "(I)I"⟩ ∈ GW := gw_of (List.mem_of_getElem? (i := 796) (by decide +kernel)) rfl
theorem k_797 : Cond.methodLink "PulseRemote$Learner" 31 ⟨"PulseRemote$Clusters", "makeEmpty", "()V"⟩ ∈ GW := gw_of (List.mem_of_getElem? (i := 797) (by decide +kernel)) rfl
theorem k_798 : Cond.instanceMethod ⟨"PulseRemote$Clusters", "makeEmpty", "()V"⟩ ∈ GW := gw_of (List.mem_of_getElem? (i := 798) (by decide +kernel)) rfl
theorem k_799 : Cond.selects "PulseRemote$Clusters" ⟨"PulseRemote$Clusters", "makeEmpty", "()V"⟩ ⟨"PulseRemote$Clusters", "makeEmpty", "()V"⟩ ∈ GW := gw_of (List.mem_of_getElem? (i := 799) (by decide +kernel)) rfl
theorem k_800 : Cond.code yX0_makeEmpty cX0_makeEmpty 1 none ∈ GW := gw_of (List.mem_of_getElem? (i := 800) (by decide +kernel)) rfl
theorem k_801 : Cond.methodLink "PulseRemote$Learner" 37 ⟨"PulseRemote$FrameList", "durationAt", "(II)I"⟩ ∈ GW := gw_of (List.mem_of_getElem? (i := 801) (by decide +kernel)) rfl
theorem k_802 : Cond.methodLink "PulseRemote$Learner" 41 ⟨"PulseRemote$Learner", "insertAll", "(LPulseRemote$FrameList;I)V"⟩ ∈ GW := gw_of (List.mem_of_getElem? (i := 802) (by decide +kernel)) rfl
theorem k_804 : Cond.instanceMethod ⟨"PulseRemote$Learner", "insertAll", "(LPulseRemote$FrameList;I)V"⟩ ∈ GW := gw_of (List.mem_of_getElem? (i := 804) (by decide +kernel)) rfl
theorem k_805 : Cond.code yX4_insertAll cX4_insertAll 4 none ∈ GW := gw_of (List.mem_of_getElem? (i := 805) (by decide +kernel)) rfl
theorem k_806 : Cond.methodLink "PulseRemote$Learner" 54 ⟨"PulseRemote$Clusters", "insert", "(I)V"⟩ ∈ GW := gw_of (List.mem_of_getElem? (i := 806) (by decide +kernel)) rfl
theorem k_807 : Cond.instanceMethod ⟨"PulseRemote$Clusters", "insert", "(I)V"⟩ ∈ GW := gw_of (List.mem_of_getElem? (i := 807) (by decide +kernel)) rfl
theorem k_808 : Cond.selects "PulseRemote$Clusters" ⟨"PulseRemote$Clusters", "insert", "(I)V"⟩ ⟨"PulseRemote$Clusters", "insert", "(I)V"⟩ ∈ GW := gw_of (List.mem_of_getElem? (i := 808) (by decide +kernel)) rfl
theorem k_809 : Cond.code yX0_insert cX0_insert 3 none ∈ GW := gw_of (List.mem_of_getElem? (i := 809) (by decide +kernel)) rfl
theorem k_810 : Cond.methodLink "PulseRemote$Learner" 51 ⟨"PulseRemote$Clusters", "cut", "()V"⟩ ∈ GW := gw_of (List.mem_of_getElem? (i := 810) (by decide +kernel)) rfl
theorem k_811 : Cond.instanceMethod ⟨"PulseRemote$Clusters", "cut", "()V"⟩ ∈ GW := gw_of (List.mem_of_getElem? (i := 811) (by decide +kernel)) rfl
theorem k_812 : Cond.selects "PulseRemote$Clusters" ⟨"PulseRemote$Clusters", "cut", "()V"⟩ ⟨"PulseRemote$Clusters", "cut", "()V"⟩ ∈ GW := gw_of (List.mem_of_getElem? (i := 812) (by decide +kernel)) rfl
theorem k_813 : Cond.code yX0_cut cX0_cut 3 none ∈ GW := gw_of (List.mem_of_getElem? (i := 813) (by decide +kernel)) rfl
theorem k_814 : Cond.methodLink "PulseRemote$Clusters" 22 ⟨"PulseRemote$Clusters", "mean", "(II)I"⟩ ∈ GW := gw_of (List.mem_of_getElem? (i := 814) (by decide +kernel)) rfl
theorem k_816 : Cond.instanceMethod ⟨"PulseRemote$Clusters", "mean", "(II)I"⟩ ∈ GW := gw_of (List.mem_of_getElem? (i := 816) (by decide +kernel)) rfl
theorem k_817 : Cond.code yX0_mean cX0_mean 5 (some .int) ∈ GW := gw_of (List.mem_of_getElem? (i := 817) (by decide +kernel)) rfl
theorem k_818 : Cond.methodLink "PulseRemote$Clusters" 36 ⟨"java/lang/Math", "max", "(II)I"⟩ ∈ GW := gw_of (List.mem_of_getElem? (i := 818) (by decide +kernel)) rfl
theorem k_819 : Cond.methodLink "PulseRemote$Clusters" 26 ⟨"PulseRemote$Clusters", "noteCluster", "(I)V"⟩ ∈ GW := gw_of (List.mem_of_getElem? (i := 819) (by decide +kernel)) rfl
theorem k_821 : Cond.instanceMethod ⟨"PulseRemote$Clusters", "noteCluster", "(I)V"⟩ ∈ GW := gw_of (List.mem_of_getElem? (i := 821) (by decide +kernel)) rfl
theorem k_822 : Cond.code yX0_noteCluster cX0_noteCluster 2 none ∈ GW := gw_of (List.mem_of_getElem? (i := 822) (by decide +kernel)) rfl
theorem k_823 : Cond.methodLink "PulseRemote" 174 ⟨"PulseRemote$Learner", "conclude", "()Z"⟩ ∈ GW := gw_of (List.mem_of_getElem? (i := 823) (by decide +kernel)) rfl
theorem k_824 : Cond.instanceMethod ⟨"PulseRemote$Learner", "conclude", "()Z"⟩ ∈ GW := gw_of (List.mem_of_getElem? (i := 824) (by decide +kernel)) rfl
theorem k_825 : Cond.selects "PulseRemote$Learner" ⟨"PulseRemote$Learner", "conclude", "()Z"⟩ ⟨"PulseRemote$Learner", "conclude", "()Z"⟩ ∈ GW := gw_of (List.mem_of_getElem? (i := 825) (by decide +kernel)) rfl
theorem k_826 : Cond.code yX4_conclude cX4_conclude 1 (some .boolean) ∈ GW := gw_of (List.mem_of_getElem? (i := 826) (by decide +kernel)) rfl
theorem k_827 : Cond.methodLink "PulseRemote$Learner" 61 ⟨"PulseRemote$Learner", "makeProtocol", "(IILPulseRemote$Clusters;LPulseRemote$Clusters;)Z"⟩ ∈ GW := gw_of (List.mem_of_getElem? (i := 827) (by decide +kernel)) rfl
theorem k_829 : Cond.instanceMethod ⟨"PulseRemote$Learner", "makeProtocol", "(IILPulseRemote$Clusters;LPulseRemote$Clusters;)Z"⟩ ∈ GW := gw_of (List.mem_of_getElem? (i := 829) (by decide +kernel)) rfl
theorem k_830 : Cond.code yX4_makeProtocol cX4_makeProtocol 5 (some .boolean) ∈ GW := gw_of (List.mem_of_getElem? (i := 830) (by decide +kernel)) rfl
theorem k_831 : Cond.methodLinkNest "PulseRemote$Learner" 86 ⟨"PulseRemote", "lengthsPossible", "(IIIIII)Z"⟩ "PulseRemote" ∈ lw_tbl := List.mem_of_getElem? (i := 831) (by decide +kernel)
theorem k_832 : Cond.methodLink "PulseRemoteLaw" 80 ⟨"PulseRemote", "setGap", "(I)I"⟩ ∈ GW := gw_of (List.mem_of_getElem? (i := 832) (by decide +kernel)) rfl
theorem k_833 : Cond.instanceMethod ⟨"PulseRemote", "setGap", "(I)I"⟩ ∈ GW := gw_of (List.mem_of_getElem? (i := 833) (by decide +kernel)) rfl
theorem k_834 : Cond.selects "PulseRemote" ⟨"PulseRemote", "setGap", "(I)I"⟩ ⟨"PulseRemote", "setGap", "(I)I"⟩ ∈ GW := gw_of (List.mem_of_getElem? (i := 834) (by decide +kernel)) rfl
theorem k_835 : Cond.code yX11_setGap cX11_setGap 3 (some .int) ∈ GW := gw_of (List.mem_of_getElem? (i := 835) (by decide +kernel)) rfl
theorem k_836 : Cond.constant "PulseRemote" 222 (60000 : Int32) ∈ GW := gw_of (List.mem_of_getElem? (i := 836) (by decide +kernel)) rfl
theorem k_837 : Cond.constant "PulseRemoteLaw" 83 (60000 : Int32) ∈ GW := gw_of (List.mem_of_getElem? (i := 837) (by decide +kernel)) rfl
theorem k_838 : Cond.methodLink "PulseRemoteLaw" 84 ⟨"PulseRemote", "setHold", "(I)I"⟩ ∈ GW := gw_of (List.mem_of_getElem? (i := 838) (by decide +kernel)) rfl
theorem k_839 : Cond.instanceMethod ⟨"PulseRemote", "setHold", "(I)I"⟩ ∈ GW := gw_of (List.mem_of_getElem? (i := 839) (by decide +kernel)) rfl
theorem k_840 : Cond.selects "PulseRemote" ⟨"PulseRemote", "setHold", "(I)I"⟩ ⟨"PulseRemote", "setHold", "(I)I"⟩ ∈ GW := gw_of (List.mem_of_getElem? (i := 840) (by decide +kernel)) rfl
theorem k_841 : Cond.code yX11_setHold cX11_setHold 3 (some .int) ∈ GW := gw_of (List.mem_of_getElem? (i := 841) (by decide +kernel)) rfl
theorem k_842 : Cond.methodLink "PulseRemoteLaw" 90 ⟨"PulseRemote", "clear", "(I)I"⟩ ∈ GW := gw_of (List.mem_of_getElem? (i := 842) (by decide +kernel)) rfl
theorem k_843 : Cond.instanceMethod ⟨"PulseRemote", "clear", "(I)I"⟩ ∈ GW := gw_of (List.mem_of_getElem? (i := 843) (by decide +kernel)) rfl
theorem k_844 : Cond.selects "PulseRemote" ⟨"PulseRemote", "clear", "(I)I"⟩ ⟨"PulseRemote", "clear", "(I)I"⟩ ∈ GW := gw_of (List.mem_of_getElem? (i := 844) (by decide +kernel)) rfl
theorem k_845 : Cond.code yX11_clear cX11_clear 4 (some .int) ∈ GW := gw_of (List.mem_of_getElem? (i := 845) (by decide +kernel)) rfl
theorem k_846 : Cond.methodLink "PulseRemoteLaw" 93 ⟨"PulseRemote", "overlay", "(III)I"⟩ ∈ GW := gw_of (List.mem_of_getElem? (i := 846) (by decide +kernel)) rfl
theorem k_847 : Cond.instanceMethod ⟨"PulseRemote", "overlay", "(III)I"⟩ ∈ GW := gw_of (List.mem_of_getElem? (i := 847) (by decide +kernel)) rfl
theorem k_848 : Cond.selects "PulseRemote" ⟨"PulseRemote", "overlay", "(III)I"⟩ ⟨"PulseRemote", "overlay", "(III)I"⟩ ∈ GW := gw_of (List.mem_of_getElem? (i := 848) (by decide +kernel)) rfl
theorem k_849 : Cond.code yX11_overlay cX11_overlay 6 (some .int) ∈ GW := gw_of (List.mem_of_getElem? (i := 849) (by decide +kernel)) rfl
theorem k_850 : Cond.methodLink "PulseRemote" 260 ⟨"PulseRemote$Train", "endsWithMark", "()Z"⟩ ∈ GW := gw_of (List.mem_of_getElem? (i := 850) (by decide +kernel)) rfl
theorem k_851 : Cond.methodLink "PulseRemote" 263 ⟨"PulseRemote$Collision", "lay", "(LPulseRemote$Train;LPulseRemote$Train;)V"⟩ ∈ GW := gw_of (List.mem_of_getElem? (i := 851) (by decide +kernel)) rfl
theorem k_852 : Cond.instanceMethod ⟨"PulseRemote$Collision", "lay", "(LPulseRemote$Train;LPulseRemote$Train;)V"⟩ ∈ GW := gw_of (List.mem_of_getElem? (i := 852) (by decide +kernel)) rfl
theorem k_853 : Cond.selects "PulseRemote$Collision" ⟨"PulseRemote$Collision", "lay", "(LPulseRemote$Train;LPulseRemote$Train;)V"⟩ ⟨"PulseRemote$Collision", "lay", "(LPulseRemote$Train;LPulseRemote$Train;)V"⟩ ∈ GW := gw_of (List.mem_of_getElem? (i := 853) (by decide +kernel)) rfl
theorem k_854 : Cond.code yX1_lay cX1_lay 3 none ∈ GW := gw_of (List.mem_of_getElem? (i := 854) (by decide +kernel)) rfl
theorem k_855 : Cond.methodLink "PulseRemote$Collision" 21 ⟨"PulseRemote$Train", "copyFrom", "(LPulseRemote$Train;)V"⟩ ∈ GW := gw_of (List.mem_of_getElem? (i := 855) (by decide +kernel)) rfl
theorem k_856 : Cond.methodLink "PulseRemote" 267 ⟨"PulseRemote$Collision", "begin", "(I)V"⟩ ∈ GW := gw_of (List.mem_of_getElem? (i := 856) (by decide +kernel)) rfl
theorem k_857 : Cond.instanceMethod ⟨"PulseRemote$Collision", "begin", "(I)V"⟩ ∈ GW := gw_of (List.mem_of_getElem? (i := 857) (by decide +kernel)) rfl
theorem k_858 : Cond.selects "PulseRemote$Collision" ⟨"PulseRemote$Collision", "begin", "(I)V"⟩ ⟨"PulseRemote$Collision", "begin", "(I)V"⟩ ∈ GW := gw_of (List.mem_of_getElem? (i := 858) (by decide +kernel)) rfl
theorem k_859 : Cond.code yX1_begin cX1_begin 2 none ∈ GW := gw_of (List.mem_of_getElem? (i := 859) (by decide +kernel)) rfl
theorem k_860 : Cond.methodLink "PulseRemote$Collision" 41 ⟨"PulseRemote$Collision", "takeMark", "()V"⟩ ∈ GW := gw_of (List.mem_of_getElem? (i := 860) (by decide +kernel)) rfl
theorem k_862 : Cond.instanceMethod ⟨"PulseRemote$Collision", "takeMark", "()V"⟩ ∈ GW := gw_of (List.mem_of_getElem? (i := 862) (by decide +kernel)) rfl
theorem k_863 : Cond.code yX1_takeMark cX1_takeMark 3 none ∈ GW := gw_of (List.mem_of_getElem? (i := 863) (by decide +kernel)) rfl
theorem k_864 : Cond.methodLink "PulseRemote$Collision" 54 ⟨"PulseRemote$Train", "at", "(I)I"⟩ ∈ GW := gw_of (List.mem_of_getElem? (i := 864) (by decide +kernel)) rfl
theorem k_865 : Cond.methodLink "PulseRemote" 270 ⟨"PulseRemote$Collision", "writeTo", "(LPulseRemote$Train;)Z"⟩ ∈ GW := gw_of (List.mem_of_getElem? (i := 865) (by decide +kernel)) rfl
theorem k_866 : Cond.instanceMethod ⟨"PulseRemote$Collision", "writeTo", "(LPulseRemote$Train;)Z"⟩ ∈ GW := gw_of (List.mem_of_getElem? (i := 866) (by decide +kernel)) rfl
theorem k_867 : Cond.selects "PulseRemote$Collision" ⟨"PulseRemote$Collision", "writeTo", "(LPulseRemote$Train;)Z"⟩ ⟨"PulseRemote$Collision", "writeTo", "(LPulseRemote$Train;)Z"⟩ ∈ GW := gw_of (List.mem_of_getElem? (i := 867) (by decide +kernel)) rfl
theorem k_868 : Cond.code yX1_writeTo cX1_writeTo 4 (some .boolean) ∈ GW := gw_of (List.mem_of_getElem? (i := 868) (by decide +kernel)) rfl
theorem k_869 : Cond.methodLink "PulseRemote$Collision" 67 ⟨"PulseRemote$Collision", "nextDuration", "()I"⟩ ∈ GW := gw_of (List.mem_of_getElem? (i := 869) (by decide +kernel)) rfl
theorem k_870 : Cond.instanceMethod ⟨"PulseRemote$Collision", "nextDuration", "()I"⟩ ∈ GW := gw_of (List.mem_of_getElem? (i := 870) (by decide +kernel)) rfl
theorem k_871 : Cond.selects "PulseRemote$Collision" ⟨"PulseRemote$Collision", "nextDuration", "()I"⟩ ⟨"PulseRemote$Collision", "nextDuration", "()I"⟩ ∈ GW := gw_of (List.mem_of_getElem? (i := 871) (by decide +kernel)) rfl
theorem k_872 : Cond.code yX1_nextDuration cX1_nextDuration 4 (some .int) ∈ GW := gw_of (List.mem_of_getElem? (i := 872) (by decide +kernel)) rfl
theorem k_873 : Cond.methodLink "PulseRemote$Collision" 61 ⟨"java/lang/Math", "max", "(II)I"⟩ ∈ GW := gw_of (List.mem_of_getElem? (i := 873) (by decide +kernel)) rfl
theorem k_874 : Cond.methodLink "PulseRemote$Collision" 71 ⟨"PulseRemote$Train", "put", "(I)V"⟩ ∈ GW := gw_of (List.mem_of_getElem? (i := 874) (by decide +kernel)) rfl
theorem k_875 : Cond.methodLink "PulseRemote" 274 ⟨"PulseRemote$Train", "longest", "()I"⟩ ∈ GW := gw_of (List.mem_of_getElem? (i := 875) (by decide +kernel)) rfl
theorem k_876 : Cond.instanceMethod ⟨"PulseRemote$Train", "longest", "()I"⟩ ∈ GW := gw_of (List.mem_of_getElem? (i := 876) (by decide +kernel)) rfl
theorem k_877 : Cond.selects "PulseRemote$Train" ⟨"PulseRemote$Train", "longest", "()I"⟩ ⟨"PulseRemote$Train", "longest", "()I"⟩ ∈ GW := gw_of (List.mem_of_getElem? (i := 877) (by decide +kernel)) rfl
theorem k_878 : Cond.code yX10_longest cX10_longest 3 (some .int) ∈ GW := gw_of (List.mem_of_getElem? (i := 878) (by decide +kernel)) rfl
theorem k_879 : Cond.methodLink "PulseRemote$Train" 27 ⟨"PulseRemote$Train", "at", "(I)I"⟩ ∈ GW := gw_of (List.mem_of_getElem? (i := 879) (by decide +kernel)) rfl
theorem k_880 : Cond.methodLink "PulseRemote" 278 ⟨"PulseRemote$Train", "copyFrom", "(LPulseRemote$Train;)V"⟩ ∈ GW := gw_of (List.mem_of_getElem? (i := 880) (by decide +kernel)) rfl
theorem k_881 : Cond.methodLink "PulseRemoteLaw" 97 ⟨"PulseRemote", "distort", "(III)I"⟩ ∈ GW := gw_of (List.mem_of_getElem? (i := 881) (by decide +kernel)) rfl
theorem k_882 : Cond.instanceMethod ⟨"PulseRemote", "distort", "(III)I"⟩ ∈ GW := gw_of (List.mem_of_getElem? (i := 882) (by decide +kernel)) rfl
theorem k_883 : Cond.selects "PulseRemote" ⟨"PulseRemote", "distort", "(III)I"⟩ ⟨"PulseRemote", "distort", "(III)I"⟩ ∈ GW := gw_of (List.mem_of_getElem? (i := 883) (by decide +kernel)) rfl
theorem k_884 : Cond.code yX11_distort cX11_distort 4 (some .int) ∈ GW := gw_of (List.mem_of_getElem? (i := 884) (by decide +kernel)) rfl
theorem k_885 : Cond.methodLink "PulseRemote" 280 ⟨"PulseRemote$Train", "stretch", "(I)I"⟩ ∈ GW := gw_of (List.mem_of_getElem? (i := 885) (by decide +kernel)) rfl
theorem k_886 : Cond.instanceMethod ⟨"PulseRemote$Train", "stretch", "(I)I"⟩ ∈ GW := gw_of (List.mem_of_getElem? (i := 886) (by decide +kernel)) rfl
theorem k_887 : Cond.selects "PulseRemote$Train" ⟨"PulseRemote$Train", "stretch", "(I)I"⟩ ⟨"PulseRemote$Train", "stretch", "(I)I"⟩ ∈ GW := gw_of (List.mem_of_getElem? (i := 887) (by decide +kernel)) rfl
theorem k_888 : Cond.code yX10_stretch cX10_stretch 6 (some .int) ∈ GW := gw_of (List.mem_of_getElem? (i := 888) (by decide +kernel)) rfl
theorem k_889 : Cond.constant "PulseRemote$Train" 37 (60000 : Int32) ∈ GW := gw_of (List.mem_of_getElem? (i := 889) (by decide +kernel)) rfl
theorem k_890 : Cond.constant "PulseRemoteLaw" 100 (50000 : Int32) ∈ GW := gw_of (List.mem_of_getElem? (i := 890) (by decide +kernel)) rfl
theorem k_891 : Cond.methodLink "PulseRemoteLaw" 101 ⟨"PulseRemote", "sendShort", "(III)I"⟩ ∈ GW := gw_of (List.mem_of_getElem? (i := 891) (by decide +kernel)) rfl
theorem k_892 : Cond.instanceMethod ⟨"PulseRemote", "sendShort", "(III)I"⟩ ∈ GW := gw_of (List.mem_of_getElem? (i := 892) (by decide +kernel)) rfl
theorem k_893 : Cond.selects "PulseRemote" ⟨"PulseRemote", "sendShort", "(III)I"⟩ ⟨"PulseRemote", "sendShort", "(III)I"⟩ ∈ GW := gw_of (List.mem_of_getElem? (i := 893) (by decide +kernel)) rfl
theorem k_894 : Cond.code yX11_sendShort cX11_sendShort 4 (some .int) ∈ GW := gw_of (List.mem_of_getElem? (i := 894) (by decide +kernel)) rfl
theorem k_895 : Cond.methodLink "PulseRemote" 252 ⟨"PulseRemote", "appendScratch", "(LPulseRemote$Train;I)I"⟩ ∈ GW := gw_of (List.mem_of_getElem? (i := 895) (by decide +kernel)) rfl
theorem k_897 : Cond.instanceMethod ⟨"PulseRemote", "appendScratch", "(LPulseRemote$Train;I)I"⟩ ∈ GW := gw_of (List.mem_of_getElem? (i := 897) (by decide +kernel)) rfl
theorem k_898 : Cond.code yX11_appendScratch cX11_appendScratch 5 (some .int) ∈ GW := gw_of (List.mem_of_getElem? (i := 898) (by decide +kernel)) rfl
theorem k_899 : Cond.methodLink "PulseRemote" 245 ⟨"PulseRemote$Train", "put", "(I)V"⟩ ∈ GW := gw_of (List.mem_of_getElem? (i := 899) (by decide +kernel)) rfl
theorem k_900 : Cond.methodLink "PulseRemoteLaw" 104 ⟨"PulseRemote", "append", "(II)I"⟩ ∈ GW := gw_of (List.mem_of_getElem? (i := 900) (by decide +kernel)) rfl
theorem k_901 : Cond.instanceMethod ⟨"PulseRemote", "append", "(II)I"⟩ ∈ GW := gw_of (List.mem_of_getElem? (i := 901) (by decide +kernel)) rfl
theorem k_902 : Cond.selects "PulseRemote" ⟨"PulseRemote", "append", "(II)I"⟩ ⟨"PulseRemote", "append", "(II)I"⟩ ∈ GW := gw_of (List.mem_of_getElem? (i := 902) (by decide +kernel)) rfl
theorem k_903 : Cond.code yX11_append cX11_append 4 (some .int) ∈ GW := gw_of (List.mem_of_getElem? (i := 903) (by decide +kernel)) rfl
theorem k_904 : Cond.methodLink "PulseRemoteLaw" 107 ⟨"PulseRemote", "send", "(IIII)I"⟩ ∈ GW := gw_of (List.mem_of_getElem? (i := 904) (by decide +kernel)) rfl
theorem k_905 : Cond.instanceMethod ⟨"PulseRemote", "send", "(IIII)I"⟩ ∈ GW := gw_of (List.mem_of_getElem? (i := 905) (by decide +kernel)) rfl
theorem k_906 : Cond.selects "PulseRemote" ⟨"PulseRemote", "send", "(IIII)I"⟩ ⟨"PulseRemote", "send", "(IIII)I"⟩ ∈ GW := gw_of (List.mem_of_getElem? (i := 906) (by decide +kernel)) rfl
theorem k_907 : Cond.code yX11_send cX11_send 5 (some .int) ∈ GW := gw_of (List.mem_of_getElem? (i := 907) (by decide +kernel)) rfl
theorem cf0 : CF 0 RX0 TX0 5 tyX0 := ⟨rfl, by decide, rfl, rfl, fun w hw => gw_of ((by decide +kernel : ∀ w ∈ u_ws RX0 TX0 5, w ∈ lw_tbl) w hw) ((by decide +kernel : ∀ w ∈ u_ws RX0 TX0 5, goodWord w = true) w hw), tyX0_ok, nmX0⟩
theorem cf1 : CF 1 RX1 TX1 10 tyX1 := ⟨rfl, by decide, rfl, rfl, fun w hw => gw_of ((by decide +kernel : ∀ w ∈ u_ws RX1 TX1 10, w ∈ lw_tbl) w hw) ((by decide +kernel : ∀ w ∈ u_ws RX1 TX1 10, goodWord w = true) w hw), tyX1_ok, nmX1⟩
theorem cf2 : CF 2 RX2 TX2 6 tyX2 := ⟨rfl, by decide, rfl, rfl, fun w hw => gw_of ((by decide +kernel : ∀ w ∈ u_ws RX2 TX2 6, w ∈ lw_tbl) w hw) ((by decide +kernel : ∀ w ∈ u_ws RX2 TX2 6, goodWord w = true) w hw), tyX2_ok, nmX2⟩
theorem cf3 : CF 3 RX3 TX3 4 tyX3 := ⟨rfl, by decide, rfl, rfl, fun w hw => gw_of ((by decide +kernel : ∀ w ∈ u_ws RX3 TX3 4, w ∈ lw_tbl) w hw) ((by decide +kernel : ∀ w ∈ u_ws RX3 TX3 4, goodWord w = true) w hw), tyX3_ok, nmX3⟩
theorem cf4 : CF 4 RX4 TX4 10 tyX4 := ⟨rfl, by decide, rfl, rfl, fun w hw => gw_of ((by decide +kernel : ∀ w ∈ u_ws RX4 TX4 10, w ∈ lw_tbl) w hw) ((by decide +kernel : ∀ w ∈ u_ws RX4 TX4 10, goodWord w = true) w hw), tyX4_ok, nmX4⟩
theorem cf5 : CF 5 RX5 TX5 8 tyX5 := ⟨rfl, by decide, rfl, rfl, fun w hw => gw_of ((by decide +kernel : ∀ w ∈ u_ws RX5 TX5 8, w ∈ lw_tbl) w hw) ((by decide +kernel : ∀ w ∈ u_ws RX5 TX5 8, goodWord w = true) w hw), tyX5_ok, nmX5⟩
theorem cf6 : CF 6 RX6 TX6 9 tyX6 := ⟨rfl, by decide, rfl, rfl, fun w hw => gw_of ((by decide +kernel : ∀ w ∈ u_ws RX6 TX6 9, w ∈ lw_tbl) w hw) ((by decide +kernel : ∀ w ∈ u_ws RX6 TX6 9, goodWord w = true) w hw), tyX6_ok, nmX6⟩
theorem cf7 : CF 7 RX7 TX7 5 tyX7 := ⟨rfl, by decide, rfl, rfl, fun w hw => gw_of ((by decide +kernel : ∀ w ∈ u_ws RX7 TX7 5, w ∈ lw_tbl) w hw) ((by decide +kernel : ∀ w ∈ u_ws RX7 TX7 5, goodWord w = true) w hw), tyX7_ok, nmX7⟩
theorem cf8 : CF 8 RX8 TX8 5 tyX8 := ⟨rfl, by decide, rfl, rfl, fun w hw => gw_of ((by decide +kernel : ∀ w ∈ u_ws RX8 TX8 5, w ∈ lw_tbl) w hw) ((by decide +kernel : ∀ w ∈ u_ws RX8 TX8 5, goodWord w = true) w hw), tyX8_ok, nmX8⟩
theorem cf9 : CF 9 RX9 TX9 5 tyX9 := ⟨rfl, by decide, rfl, rfl, fun w hw => gw_of ((by decide +kernel : ∀ w ∈ u_ws RX9 TX9 5, w ∈ lw_tbl) w hw) ((by decide +kernel : ∀ w ∈ u_ws RX9 TX9 5, goodWord w = true) w hw), tyX9_ok, nmX9⟩
theorem cf10 : CF 10 RX10 TX10 2 tyX10 := ⟨rfl, by decide, rfl, rfl, fun w hw => gw_of ((by decide +kernel : ∀ w ∈ u_ws RX10 TX10 2, w ∈ lw_tbl) w hw) ((by decide +kernel : ∀ w ∈ u_ws RX10 TX10 2, goodWord w = true) w hw), tyX10_ok, nmX10⟩
theorem cf11 : CF 11 RX11 TX11 12 tyX11 := ⟨rfl, by decide, rfl, rfl, fun w hw => gw_of ((by decide +kernel : ∀ w ∈ u_ws RX11 TX11 12, w ∈ lw_tbl) w hw) ((by decide +kernel : ∀ w ∈ u_ws RX11 TX11 12, goodWord w = true) w hw), tyX11_ok, nmX11⟩
def rmX11_inRange : Room := { frames := 0, cells := 0, slots := 0, locals := 0 }
theorem cmX11_inRange : CM yX11_inRange cX11_inRange 3 (some .boolean) 3 := ⟨k_442, k_22, by decide +kernel⟩
theorem smX11_inRange : Cond.static yX11_inRange ∈ GW := k_441
def rmX8_protocolsFull : Room := { frames := 0, cells := 0, slots := 0, locals := 0 }
theorem cmX8_protocolsFull : CM yX8_protocolsFull cX8_protocolsFull 1 (some .boolean) 0 := ⟨k_752, k_24, by decide +kernel⟩
theorem imX8_protocolsFull : IM yX8_protocolsFull := ⟨k_750, k_751⟩
def rmX6_useShape : Room := { frames := 0, cells := 0, slots := 0, locals := 0 }
theorem cmX6_useShape : CM yX6_useShape cX6_useShape 5 none 4 := ⟨k_462, k_25, by decide +kernel⟩
theorem imX6_useShape : IM yX6_useShape := ⟨k_460, k_461⟩
def rmX6_useLengths : Room := { frames := 0, cells := 0, slots := 0, locals := 0 }
theorem cmX6_useLengths : CM yX6_useLengths cX6_useLengths 6 none 5 := ⟨k_466, k_25, by decide +kernel⟩
theorem imX6_useLengths : IM yX6_useLengths := ⟨k_464, k_465⟩
def rmX6_copyFrom : Room := { frames := 1, cells := 0, slots := 0, locals := 25 }
theorem cmX6_copyFrom : CM yX6_copyFrom cX6_copyFrom 2 none 1 := ⟨k_458, k_25, by decide +kernel⟩
theorem imX6_copyFrom : IM yX6_copyFrom := ⟨k_456, k_457⟩
def rmX8_copyFrom : Room := { frames := 2, cells := 0, slots := 0, locals := 46 }
theorem cmX8_copyFrom : CM yX8_copyFrom cX8_copyFrom 3 none 1 := ⟨k_454, k_24, by decide +kernel⟩
theorem imX8_copyFrom : IM yX8_copyFrom := ⟨k_452, k_453⟩
def rmX10_copyFrom : Room := { frames := 1, cells := 0, slots := 0, locals := 40 }
theorem cmX10_copyFrom : CM yX10_copyFrom cX10_copyFrom 2 none 1 := ⟨k_473, k_26, by decide +kernel⟩
theorem imX10_copyFrom : IM yX10_copyFrom := ⟨k_471, k_472⟩
def rmX7_copyFrom : Room := { frames := 3, cells := 0, slots := 0, locals := 68 }
theorem cmX7_copyFrom : CM yX7_copyFrom cX7_copyFrom 3 none 1 := ⟨k_450, k_23, by decide +kernel⟩
theorem imX7_copyFrom : IM yX7_copyFrom := ⟨k_448, k_449⟩
def rmX11_saveState : Room := { frames := 4, cells := 0, slots := 0, locals := 90 }
theorem cmX11_saveState : CM yX11_saveState cX11_saveState 3 none 0 := ⟨k_446, k_22, by decide +kernel⟩
theorem imX11_saveState : IM yX11_saveState := ⟨k_445, k_0⟩
def rmX8_protocolAt : Room := { frames := 0, cells := 0, slots := 0, locals := 0 }
theorem cmX8_protocolAt : CM yX8_protocolAt cX8_protocolAt 2 (some (.object "PulseRemote$Protocol")) 1 := ⟨k_540, k_24, by decide +kernel⟩
theorem imX8_protocolAt : IM yX8_protocolAt := ⟨k_538, k_539⟩
def rmX8_newProtocol : Room := { frames := 1, cells := 0, slots := 0, locals := 25 }
theorem cmX8_newProtocol : CM yX8_newProtocol cX8_newProtocol 6 (some .int) 4 := ⟨k_756, k_24, by decide +kernel⟩
theorem imX8_newProtocol : IM yX8_newProtocol := ⟨k_754, k_755⟩
def rmX11_addProtocol : Room := { frames := 5, cells := 0, slots := 0, locals := 112 }
theorem cmX11_addProtocol : CM yX11_addProtocol cX11_addProtocol 5 (some .int) 4 := ⟨k_748, k_22, by decide +kernel⟩
theorem imX11_addProtocol : IM yX11_addProtocol := ⟨k_746, k_747⟩
def rmX8_hasProtocol : Room := { frames := 0, cells := 0, slots := 0, locals := 0 }
theorem cmX8_hasProtocol : CM yX8_hasProtocol cX8_hasProtocol 2 (some .boolean) 1 := ⟨k_732, k_24, by decide +kernel⟩
theorem imX8_hasProtocol : IM yX8_hasProtocol := ⟨k_730, k_731⟩
def rmX11_isLength : Room := { frames := 1, cells := 0, slots := 0, locals := 22 }
theorem cmX11_isLength : CM yX11_isLength cX11_isLength 1 (some .boolean) 1 := ⟨k_768, k_22, by decide +kernel⟩
theorem smX11_isLength : Cond.static yX11_isLength ∈ GW := k_767
def rmX11_lengthsPossible : Room := { frames := 2, cells := 0, slots := 0, locals := 42 }
theorem cmX11_lengthsPossible : CM yX11_lengthsPossible cX11_lengthsPossible 6 (some .boolean) 6 := ⟨k_765, k_22, by decide +kernel⟩
theorem smX11_lengthsPossible : Cond.static yX11_lengthsPossible ∈ GW := k_764
def rmX11_setLengths : Room := { frames := 5, cells := 0, slots := 0, locals := 112 }
theorem cmX11_setLengths : CM yX11_setLengths cX11_setLengths 9 (some .int) 6 := ⟨k_762, k_22, by decide +kernel⟩
theorem imX11_setLengths : IM yX11_setLengths := ⟨k_760, k_761⟩
def rmX11_protocol : Room := { frames := 1, cells := 0, slots := 0, locals := 21 }
theorem cmX11_protocol : CM yX11_protocol cX11_protocol 4 (some .int) 2 := ⟨k_728, k_22, by decide +kernel⟩
theorem imX11_protocol : IM yX11_protocol := ⟨k_726, k_727⟩
def rmX11_count : Room := { frames := 0, cells := 0, slots := 0, locals := 0 }
theorem cmX11_count : CM yX11_count cX11_count 2 (some .int) 1 := ⟨k_435, k_22, by decide +kernel⟩
theorem imX11_count : IM yX11_count := ⟨k_433, k_434⟩
def rmX11_isSlot : Room := { frames := 0, cells := 0, slots := 0, locals := 0 }
theorem cmX11_isSlot : CM yX11_isSlot cX11_isSlot 1 (some .boolean) 1 := ⟨k_487, k_22, by decide +kernel⟩
theorem smX11_isSlot : Cond.static yX11_isSlot ∈ GW := k_486
def rmX7_trainAt : Room := { frames := 1, cells := 0, slots := 0, locals := 20 }
theorem cmX7_trainAt : CM yX7_trainAt cX7_trainAt 2 (some (.object "PulseRemote$Train")) 1 := ⟨k_491, k_23, by decide +kernel⟩
theorem imX7_trainAt : IM yX7_trainAt := ⟨k_489, k_490⟩
def rmX10_endsWithMark : Room := { frames := 0, cells := 0, slots := 0, locals := 0 }
theorem cmX10_endsWithMark : CM yX10_endsWithMark cX10_endsWithMark 1 (some .boolean) 0 := ⟨k_501, k_26, by decide +kernel⟩
theorem imX10_endsWithMark : IM yX10_endsWithMark := ⟨k_499, k_500⟩
def rmX10_at : Room := { frames := 0, cells := 0, slots := 0, locals := 0 }
theorem cmX10_at : CM yX10_at cX10_at 2 (some .int) 1 := ⟨k_505, k_26, by decide +kernel⟩
theorem imX10_at : IM yX10_at := ⟨k_503, k_504⟩
def rmX3_note : Room := { frames := 0, cells := 0, slots := 0, locals := 0 }
theorem cmX3_note : CM yX3_note cX3_note 3 none 2 := ⟨k_509, k_28, by decide +kernel⟩
theorem imX3_note : IM yX3_note := ⟨k_508, k_1⟩
def rmX3_split : Room := { frames := 2, cells := 0, slots := 0, locals := 61 }
theorem cmX3_split : CM yX3_split cX3_split 6 none 2 := ⟨k_496, k_28, by decide +kernel⟩
theorem imX3_split : IM yX3_split := ⟨k_494, k_495⟩
def rmX3_sizeOf : Room := { frames := 0, cells := 0, slots := 0, locals := 0 }
theorem cmX3_sizeOf : CM yX3_sizeOf cX3_sizeOf 2 (some .int) 1 := ⟨k_521, k_28, by decide +kernel⟩
theorem imX3_sizeOf : IM yX3_sizeOf := ⟨k_519, k_520⟩
def rmX0_makeEmpty : Room := { frames := 0, cells := 0, slots := 0, locals := 0 }
theorem cmX0_makeEmpty : CM yX0_makeEmpty cX0_makeEmpty 1 none 0 := ⟨k_800, k_32, by decide +kernel⟩
theorem imX0_makeEmpty : IM yX0_makeEmpty := ⟨k_798, k_799⟩
def rmX3_startOf : Room := { frames := 0, cells := 0, slots := 0, locals := 0 }
theorem cmX3_startOf : CM yX3_startOf cX3_startOf 2 (some .int) 1 := ⟨k_517, k_28, by decide +kernel⟩
theorem imX3_startOf : IM yX3_startOf := ⟨k_515, k_516⟩
def rmX3_durationAt : Room := { frames := 1, cells := 0, slots := 0, locals := 21 }
theorem cmX3_durationAt : CM yX3_durationAt cX3_durationAt 3 (some .int) 2 := ⟨k_534, k_28, by decide +kernel⟩
theorem imX3_durationAt : IM yX3_durationAt := ⟨k_532, k_533⟩
def rmX0_insert : Room := { frames := 0, cells := 0, slots := 0, locals := 0 }
theorem cmX0_insert : CM yX0_insert cX0_insert 3 none 1 := ⟨k_809, k_32, by decide +kernel⟩
theorem imX0_insert : IM yX0_insert := ⟨k_807, k_808⟩
def rmX4_insertAll : Room := { frames := 2, cells := 0, slots := 0, locals := 43 }
theorem cmX4_insertAll : CM yX4_insertAll cX4_insertAll 4 none 2 := ⟨k_805, k_31, by decide +kernel⟩
theorem imX4_insertAll : IM yX4_insertAll := ⟨k_804, k_15⟩
def rmX0_mean : Room := { frames := 1, cells := 0, slots := 0, locals := 21 }
theorem cmX0_mean : CM yX0_mean cX0_mean 5 (some .int) 2 := ⟨k_817, k_32, by decide +kernel⟩
theorem imX0_mean : IM yX0_mean := ⟨k_816, k_16⟩
def rmX0_noteCluster : Room := { frames := 0, cells := 0, slots := 0, locals := 0 }
theorem cmX0_noteCluster : CM yX0_noteCluster cX0_noteCluster 2 none 1 := ⟨k_822, k_32, by decide +kernel⟩
theorem imX0_noteCluster : IM yX0_noteCluster := ⟨k_821, k_17⟩
def rmX0_cut : Room := { frames := 2, cells := 0, slots := 0, locals := 45 }
theorem cmX0_cut : CM yX0_cut cX0_cut 3 none 0 := ⟨k_813, k_32, by decide +kernel⟩
theorem imX0_cut : IM yX0_cut := ⟨k_811, k_812⟩
def rmX4_gather : Room := { frames := 3, cells := 0, slots := 0, locals := 67 }
theorem cmX4_gather : CM yX4_gather cX4_gather 6 (some .boolean) 1 := ⟨k_795, k_31, by decide +kernel⟩
theorem imX4_gather : IM yX4_gather := ⟨k_793, k_794⟩
def rmX4_makeProtocol : Room := { frames := 3, cells := 0, slots := 0, locals := 67 }
theorem cmX4_makeProtocol : CM yX4_makeProtocol cX4_makeProtocol 5 (some .boolean) 4 := ⟨k_830, k_31, by decide +kernel⟩
theorem imX4_makeProtocol : IM yX4_makeProtocol := ⟨k_829, k_18⟩
def rmX4_conclude : Room := { frames := 4, cells := 0, slots := 0, locals := 91 }
theorem cmX4_conclude : CM yX4_conclude cX4_conclude 1 (some .boolean) 0 := ⟨k_826, k_31, by decide +kernel⟩
theorem imX4_conclude : IM yX4_conclude := ⟨k_824, k_825⟩
def rmX11_learn : Room := { frames := 5, cells := 0, slots := 0, locals := 112 }
theorem cmX11_learn : CM yX11_learn cX11_learn 3 (some .int) 1 := ⟨k_791, k_22, by decide +kernel⟩
theorem imX11_learn : IM yX11_learn := ⟨k_789, k_790⟩
def rmX6_hasCode : Room := { frames := 0, cells := 0, slots := 0, locals := 0 }
theorem cmX6_hasCode : CM yX6_hasCode cX6_hasCode 2 (some .boolean) 1 := ⟨k_777, k_25, by decide +kernel⟩
theorem imX6_hasCode : IM yX6_hasCode := ⟨k_775, k_776⟩
def rmX6_maskAt : Room := { frames := 0, cells := 0, slots := 0, locals := 0 }
theorem cmX6_maskAt : CM yX6_maskAt cX6_maskAt 2 (some .int) 1 := ⟨k_567, k_25, by decide +kernel⟩
theorem imX6_maskAt : IM yX6_maskAt := ⟨k_565, k_566⟩
def rmX6_identityOf : Room := { frames := 1, cells := 0, slots := 0, locals := 21 }
theorem cmX6_identityOf : CM yX6_identityOf cX6_identityOf 2 (some .int) 1 := ⟨k_665, k_25, by decide +kernel⟩
theorem imX6_identityOf : IM yX6_identityOf := ⟨k_663, k_664⟩
def rmX8_hasButton : Room := { frames := 0, cells := 0, slots := 0, locals := 0 }
theorem cmX8_hasButton : CM yX8_hasButton cX8_hasButton 2 (some .boolean) 1 := ⟨k_677, k_24, by decide +kernel⟩
theorem imX8_hasButton : IM yX8_hasButton := ⟨k_675, k_676⟩
def rmX8_protocolOfButton : Room := { frames := 1, cells := 0, slots := 0, locals := 21 }
theorem cmX8_protocolOfButton : CM yX8_protocolOfButton cX8_protocolOfButton 2 (some .int) 1 := ⟨k_673, k_24, by decide +kernel⟩
theorem imX8_protocolOfButton : IM yX8_protocolOfButton := ⟨k_671, k_672⟩
def rmX8_identityOfButton : Room := { frames := 1, cells := 0, slots := 0, locals := 21 }
theorem cmX8_identityOfButton : CM yX8_identityOfButton cX8_identityOfButton 2 (some .int) 1 := ⟨k_681, k_24, by decide +kernel⟩
theorem imX8_identityOfButton : IM yX8_identityOfButton := ⟨k_679, k_680⟩
def rmX8_findButton : Room := { frames := 2, cells := 0, slots := 0, locals := 42 }
theorem cmX8_findButton : CM yX8_findButton cX8_findButton 4 (some .int) 2 := ⟨k_669, k_24, by decide +kernel⟩
theorem imX8_findButton : IM yX8_findButton := ⟨k_667, k_668⟩
def rmX8_buttonsFull : Room := { frames := 0, cells := 0, slots := 0, locals := 0 }
theorem cmX8_buttonsFull : CM yX8_buttonsFull cX8_buttonsFull 1 (some .boolean) 0 := ⟨k_783, k_24, by decide +kernel⟩
theorem imX8_buttonsFull : IM yX8_buttonsFull := ⟨k_781, k_782⟩
def rmX8_newButton : Room := { frames := 1, cells := 0, slots := 0, locals := 21 }
theorem cmX8_newButton : CM yX8_newButton cX8_newButton 3 (some .int) 2 := ⟨k_787, k_24, by decide +kernel⟩
theorem imX8_newButton : IM yX8_newButton := ⟨k_785, k_786⟩
def rmX11_addButton : Room := { frames := 5, cells := 0, slots := 0, locals := 112 }
theorem cmX11_addButton : CM yX11_addButton cX11_addButton 5 (some .int) 2 := ⟨k_773, k_22, by decide +kernel⟩
theorem imX11_addButton : IM yX11_addButton := ⟨k_771, k_772⟩
def rmX11_button : Room := { frames := 2, cells := 0, slots := 0, locals := 42 }
theorem cmX11_button : CM yX11_button cX11_button 3 (some .int) 2 := ⟨k_737, k_22, by decide +kernel⟩
theorem imX11_button : IM yX11_button := ⟨k_735, k_736⟩
def rmX11_setGap : Room := { frames := 5, cells := 0, slots := 0, locals := 112 }
theorem cmX11_setGap : CM yX11_setGap cX11_setGap 3 (some .int) 1 := ⟨k_835, k_22, by decide +kernel⟩
theorem imX11_setGap : IM yX11_setGap := ⟨k_833, k_834⟩
def rmX11_setHold : Room := { frames := 5, cells := 0, slots := 0, locals := 112 }
theorem cmX11_setHold : CM yX11_setHold cX11_setHold 3 (some .int) 1 := ⟨k_841, k_22, by decide +kernel⟩
theorem imX11_setHold : IM yX11_setHold := ⟨k_839, k_840⟩
def rmX11_setTolerance : Room := { frames := 5, cells := 0, slots := 0, locals := 112 }
theorem cmX11_setTolerance : CM yX11_setTolerance cX11_setTolerance 3 (some .int) 1 := ⟨k_439, k_22, by decide +kernel⟩
theorem imX11_setTolerance : IM yX11_setTolerance := ⟨k_437, k_438⟩
def rmX10_put : Room := { frames := 0, cells := 0, slots := 0, locals := 0 }
theorem cmX10_put : CM yX10_put cX10_put 2 none 1 := ⟨k_596, k_26, by decide +kernel⟩
theorem imX10_put : IM yX10_put := ⟨k_594, k_595⟩
def rmX11_append : Room := { frames := 5, cells := 0, slots := 0, locals := 112 }
theorem cmX11_append : CM yX11_append cX11_append 4 (some .int) 2 := ⟨k_903, k_22, by decide +kernel⟩
theorem imX11_append : IM yX11_append := ⟨k_901, k_902⟩
def rmX10_join : Room := { frames := 1, cells := 0, slots := 0, locals := 21 }
theorem cmX10_join : CM yX10_join cX10_join 3 none 2 := ⟨k_605, k_26, by decide +kernel⟩
theorem imX10_join : IM yX10_join := ⟨k_603, k_604⟩
def rmX6_writeBit : Room := { frames := 2, cells := 0, slots := 0, locals := 43 }
theorem cmX6_writeBit : CM yX6_writeBit cX6_writeBit 4 none 3 := ⟨k_601, k_25, by decide +kernel⟩
theorem imX6_writeBit : IM yX6_writeBit := ⟨k_600, k_9⟩
def rmX6_writeFrame : Room := { frames := 3, cells := 0, slots := 0, locals := 66 }
theorem cmX6_writeFrame : CM yX6_writeFrame cX6_writeFrame 4 none 2 := ⟨k_592, k_25, by decide +kernel⟩
theorem imX6_writeFrame : IM yX6_writeFrame := ⟨k_590, k_591⟩
def rmX11_appendScratch : Room := { frames := 5, cells := 0, slots := 0, locals := 112 }
theorem cmX11_appendScratch : CM yX11_appendScratch cX11_appendScratch 5 (some .int) 2 := ⟨k_898, k_22, by decide +kernel⟩
theorem imX11_appendScratch : IM yX11_appendScratch := ⟨k_897, k_20⟩
def rmX11_send : Room := { frames := 6, cells := 0, slots := 0, locals := 136 }
theorem cmX11_send : CM yX11_send cX11_send 5 (some .int) 4 := ⟨k_907, k_22, by decide +kernel⟩
theorem imX11_send : IM yX11_send := ⟨k_905, k_906⟩
def rmX6_writeShortFrame : Room := { frames := 1, cells := 0, slots := 0, locals := 21 }
theorem cmX6_writeShortFrame : CM yX6_writeShortFrame cX6_writeShortFrame 2 none 1 := ⟨k_612, k_25, by decide +kernel⟩
theorem imX6_writeShortFrame : IM yX6_writeShortFrame := ⟨k_610, k_611⟩
def rmX11_sendShort : Room := { frames := 6, cells := 0, slots := 0, locals := 136 }
theorem cmX11_sendShort : CM yX11_sendShort cX11_sendShort 4 (some .int) 3 := ⟨k_894, k_22, by decide +kernel⟩
theorem imX11_sendShort : IM yX11_sendShort := ⟨k_892, k_893⟩
def rmX11_clear : Room := { frames := 5, cells := 0, slots := 0, locals := 112 }
theorem cmX11_clear : CM yX11_clear cX11_clear 4 (some .int) 1 := ⟨k_845, k_22, by decide +kernel⟩
theorem imX11_clear : IM yX11_clear := ⟨k_843, k_844⟩
def rmX1_lay : Room := { frames := 2, cells := 0, slots := 0, locals := 61 }
theorem cmX1_lay : CM yX1_lay cX1_lay 3 none 2 := ⟨k_854, k_33, by decide +kernel⟩
theorem imX1_lay : IM yX1_lay := ⟨k_852, k_853⟩
def rmX1_takeMark : Room := { frames := 1, cells := 0, slots := 0, locals := 21 }
theorem cmX1_takeMark : CM yX1_takeMark cX1_takeMark 3 none 0 := ⟨k_863, k_33, by decide +kernel⟩
theorem imX1_takeMark : IM yX1_takeMark := ⟨k_862, k_19⟩
def rmX1_begin : Room := { frames := 2, cells := 0, slots := 0, locals := 43 }
theorem cmX1_begin : CM yX1_begin cX1_begin 2 none 1 := ⟨k_859, k_33, by decide +kernel⟩
theorem imX1_begin : IM yX1_begin := ⟨k_857, k_858⟩
def rmX1_nextDuration : Room := { frames := 2, cells := 0, slots := 0, locals := 43 }
theorem cmX1_nextDuration : CM yX1_nextDuration cX1_nextDuration 4 (some .int) 0 := ⟨k_872, k_33, by decide +kernel⟩
theorem imX1_nextDuration : IM yX1_nextDuration := ⟨k_870, k_871⟩
def rmX1_writeTo : Room := { frames := 3, cells := 0, slots := 0, locals := 66 }
theorem cmX1_writeTo : CM yX1_writeTo cX1_writeTo 4 (some .boolean) 1 := ⟨k_868, k_33, by decide +kernel⟩
theorem imX1_writeTo : IM yX1_writeTo := ⟨k_866, k_867⟩
def rmX10_longest : Room := { frames := 1, cells := 0, slots := 0, locals := 21 }
theorem cmX10_longest : CM yX10_longest cX10_longest 3 (some .int) 0 := ⟨k_878, k_26, by decide +kernel⟩
theorem imX10_longest : IM yX10_longest := ⟨k_876, k_877⟩
def rmX11_overlay : Room := { frames := 5, cells := 0, slots := 0, locals := 112 }
theorem cmX11_overlay : CM yX11_overlay cX11_overlay 6 (some .int) 3 := ⟨k_849, k_22, by decide +kernel⟩
theorem imX11_overlay : IM yX11_overlay := ⟨k_847, k_848⟩
def rmX10_stretch : Room := { frames := 1, cells := 0, slots := 0, locals := 21 }
theorem cmX10_stretch : CM yX10_stretch cX10_stretch 6 (some .int) 1 := ⟨k_888, k_26, by decide +kernel⟩
theorem imX10_stretch : IM yX10_stretch := ⟨k_886, k_887⟩
def rmX11_distort : Room := { frames := 5, cells := 0, slots := 0, locals := 112 }
theorem cmX11_distort : CM yX11_distort cX11_distort 4 (some .int) 3 := ⟨k_884, k_22, by decide +kernel⟩
theorem imX11_distort : IM yX11_distort := ⟨k_882, k_883⟩
def rmX11_duration : Room := { frames := 2, cells := 0, slots := 0, locals := 41 }
theorem cmX11_duration : CM yX11_duration cX11_duration 4 (some .int) 2 := ⟨k_719, k_22, by decide +kernel⟩
theorem imX11_duration : IM yX11_duration := ⟨k_717, k_718⟩
def rmX11_length : Room := { frames := 2, cells := 0, slots := 0, locals := 41 }
theorem cmX11_length : CM yX11_length cX11_length 2 (some .int) 1 := ⟨k_714, k_22, by decide +kernel⟩
theorem imX11_length : IM yX11_length := ⟨k_712, k_713⟩
def rmX11_frameCount : Room := { frames := 3, cells := 0, slots := 0, locals := 86 }
theorem cmX11_frameCount : CM yX11_frameCount cX11_frameCount 2 (some .int) 1 := ⟨k_484, k_22, by decide +kernel⟩
theorem imX11_frameCount : IM yX11_frameCount := ⟨k_482, k_483⟩
def rmX2_take : Room := { frames := 2, cells := 0, slots := 0, locals := 43 }
theorem cmX2_take : CM yX2_take cX2_take 4 (some .boolean) 2 := ⟨k_529, k_29, by decide +kernel⟩
theorem imX2_take : IM yX2_take := ⟨k_528, k_2⟩
def rmX11_matches : Room := { frames := 0, cells := 0, slots := 0, locals := 0 }
theorem cmX11_matches : CM yX11_matches cX11_matches 4 (some .boolean) 3 := ⟨k_551, k_22, by decide +kernel⟩
theorem smX11_matches : Cond.static yX11_matches ∈ GW := k_550
def rmX2_fits : Room := { frames := 1, cells := 0, slots := 0, locals := 23 }
theorem cmX2_fits : CM yX2_fits cX2_fits 3 (some .boolean) 2 := ⟨k_548, k_29, by decide +kernel⟩
theorem imX2_fits : IM yX2_fits := ⟨k_547, k_4⟩
def rmX2_placesOf : Room := { frames := 2, cells := 0, slots := 0, locals := 45 }
theorem cmX2_placesOf : CM yX2_placesOf cX2_placesOf 5 (some .long) 1 := ⟨k_555, k_29, by decide +kernel⟩
theorem imX2_placesOf : IM yX2_placesOf := ⟨k_554, k_5⟩
def rmX2_isIn : Room := { frames := 0, cells := 0, slots := 0, locals := 0 }
theorem cmX2_isIn : CM yX2_isIn cX2_isIn 3 (some .boolean) 2 := ⟨k_559, k_29, by decide +kernel⟩
theorem smX2_isIn : Cond.static yX2_isIn ∈ GW := k_558
def rmX2_restOfPhaseCode : Room := { frames := 1, cells := 0, slots := 0, locals := 22 }
theorem cmX2_restOfPhaseCode : CM yX2_restOfPhaseCode cX2_restOfPhaseCode 12 (some .int) 4 := ⟨k_563, k_29, by decide +kernel⟩
theorem imX2_restOfPhaseCode : IM yX2_restOfPhaseCode := ⟨k_562, k_6⟩
def rmX2_phaseCode : Room := { frames := 3, cells := 0, slots := 0, locals := 69 }
theorem cmX2_phaseCode : CM yX2_phaseCode cX2_phaseCode 11 (some .int) 1 := ⟨k_544, k_29, by decide +kernel⟩
theorem imX2_phaseCode : IM yX2_phaseCode := ⟨k_543, k_3⟩
def rmX2_plainCode : Room := { frames := 2, cells := 0, slots := 0, locals := 45 }
theorem cmX2_plainCode : CM yX2_plainCode cX2_plainCode 6 (some .int) 1 := ⟨k_571, k_29, by decide +kernel⟩
theorem imX2_plainCode : IM yX2_plainCode := ⟨k_570, k_7⟩
def rmX2_protocolOfShortFrame : Room := { frames := 2, cells := 0, slots := 0, locals := 45 }
theorem cmX2_protocolOfShortFrame : CM yX2_protocolOfShortFrame cX2_protocolOfShortFrame 4 (some .int) 1 := ⟨k_575, k_29, by decide +kernel⟩
theorem imX2_protocolOfShortFrame : IM yX2_protocolOfShortFrame := ⟨k_574, k_8⟩
def rmX2_decode : Room := { frames := 4, cells := 0, slots := 0, locals := 99 }
theorem cmX2_decode : CM yX2_decode cX2_decode 7 none 4 := ⟨k_525, k_29, by decide +kernel⟩
theorem imX2_decode : IM yX2_decode := ⟨k_523, k_524⟩
def rmX2_isDecoded : Room := { frames := 0, cells := 0, slots := 0, locals := 0 }
theorem cmX2_isDecoded : CM yX2_isDecoded cX2_isDecoded 1 (some .boolean) 0 := ⟨k_579, k_29, by decide +kernel⟩
theorem imX2_isDecoded : IM yX2_isDecoded := ⟨k_577, k_578⟩
def rmX2_isCode : Room := { frames := 0, cells := 0, slots := 0, locals := 0 }
theorem cmX2_isCode : CM yX2_isCode cX2_isCode 1 (some .boolean) 0 := ⟨k_583, k_29, by decide +kernel⟩
theorem imX2_isCode : IM yX2_isCode := ⟨k_581, k_582⟩
def rmX11_frame : Room := { frames := 5, cells := 0, slots := 0, locals := 125 }
theorem cmX11_frame : CM yX11_frame cX11_frame 4 (some .int) 3 := ⟨k_513, k_22, by decide +kernel⟩
theorem imX11_frame : IM yX11_frame := ⟨k_511, k_512⟩
def rmX11_worstDeviation : Room := { frames := 2, cells := 0, slots := 0, locals := 43 }
theorem cmX11_worstDeviation : CM yX11_worstDeviation cX11_worstDeviation 6 (some .int) 2 := ⟨k_616, k_22, by decide +kernel⟩
theorem imX11_worstDeviation : IM yX11_worstDeviation := ⟨k_615, k_10⟩
def rmX11_deviation : Room := { frames := 5, cells := 0, slots := 0, locals := 125 }
theorem cmX11_deviation : CM yX11_deviation cX11_deviation 4 (some .int) 2 := ⟨k_587, k_22, by decide +kernel⟩
theorem imX11_deviation : IM yX11_deviation := ⟨k_585, k_586⟩
def rmX3_spaceBefore : Room := { frames := 1, cells := 0, slots := 0, locals := 21 }
theorem cmX3_spaceBefore : CM yX3_spaceBefore cX3_spaceBefore 2 (some .int) 1 := ⟨k_637, k_28, by decide +kernel⟩
theorem imX3_spaceBefore : IM yX3_spaceBefore := ⟨k_635, k_636⟩
def rmX5_continuesLatest : Room := { frames := 1, cells := 0, slots := 0, locals := 21 }
theorem cmX5_continuesLatest : CM yX5_continuesLatest cX5_continuesLatest 3 (some .boolean) 2 := ⟨k_641, k_30, by decide +kernel⟩
theorem imX5_continuesLatest : IM yX5_continuesLatest := ⟨k_640, k_11⟩
def rmX5_countLatest : Room := { frames := 0, cells := 0, slots := 0, locals := 0 }
theorem cmX5_countLatest : CM yX5_countLatest cX5_countLatest 1 none 0 := ⟨k_648, k_30, by decide +kernel⟩
theorem imX5_countLatest : IM yX5_countLatest := ⟨k_647, k_12⟩
def rmX5_begin : Room := { frames := 0, cells := 0, slots := 0, locals := 0 }
theorem cmX5_begin : CM yX5_begin cX5_begin 2 none 1 := ⟨k_652, k_30, by decide +kernel⟩
theorem imX5_begin : IM yX5_begin := ⟨k_651, k_13⟩
def rmX5_find : Room := { frames := 5, cells := 0, slots := 0, locals := 125 }
theorem cmX5_find : CM yX5_find cX5_find 8 none 4 := ⟨k_630, k_30, by decide +kernel⟩
theorem imX5_find : IM yX5_find := ⟨k_628, k_629⟩
def rmX11_pressCount : Room := { frames := 6, cells := 0, slots := 0, locals := 152 }
theorem cmX11_pressCount : CM yX11_pressCount cX11_pressCount 2 (some .int) 1 := ⟨k_626, k_22, by decide +kernel⟩
theorem imX11_pressCount : IM yX11_pressCount := ⟨k_624, k_625⟩
def rmX8_findButtonOf : Room := { frames := 3, cells := 0, slots := 0, locals := 65 }
theorem cmX8_findButtonOf : CM yX8_findButtonOf cX8_findButtonOf 3 (some .int) 2 := ⟨k_660, k_24, by decide +kernel⟩
theorem imX8_findButtonOf : IM yX8_findButtonOf := ⟨k_658, k_659⟩
def rmX11_press : Room := { frames := 6, cells := 0, slots := 0, locals := 152 }
theorem cmX11_press : CM yX11_press cX11_press 4 (some .int) 3 := ⟨k_656, k_22, by decide +kernel⟩
theorem imX11_press : IM yX11_press := ⟨k_654, k_655⟩
def rmX11_strayCount : Room := { frames := 6, cells := 0, slots := 0, locals := 152 }
theorem cmX11_strayCount : CM yX11_strayCount cX11_strayCount 2 (some .int) 1 := ⟨k_685, k_22, by decide +kernel⟩
theorem imX11_strayCount : IM yX11_strayCount := ⟨k_683, k_684⟩
def rmX11_toleranceFor : Room := { frames := 5, cells := 0, slots := 0, locals := 125 }
theorem cmX11_toleranceFor : CM yX11_toleranceFor cX11_toleranceFor 4 (some .int) 2 := ⟨k_693, k_22, by decide +kernel⟩
theorem imX11_toleranceFor : IM yX11_toleranceFor := ⟨k_692, k_14⟩
def rmX11_neededTolerance : Room := { frames := 6, cells := 0, slots := 0, locals := 148 }
theorem cmX11_neededTolerance : CM yX11_neededTolerance cX11_neededTolerance 4 (some .int) 1 := ⟨k_689, k_22, by decide +kernel⟩
theorem imX11_neededTolerance : IM yX11_neededTolerance := ⟨k_687, k_688⟩
def rmX11_undo : Room := { frames := 0, cells := 0, slots := 0, locals := 0 }
theorem cmX11_undo : CM yX11_undo cX11_undo 2 (some .int) 0 := ⟨k_697, k_22, by decide +kernel⟩
theorem imX11_undo : IM yX11_undo := ⟨k_695, k_696⟩
def rmL_cell : Room := { frames := 0, cells := 0, slots := 0, locals := 0 }
theorem cmL_cell : CM yL_cell cL_cell 2 (some .int) 2 := ⟨k_700, k_21, by decide +kernel⟩
theorem smL_cell : Cond.static yL_cell ∈ GW := k_699
def rmL_low : Room := { frames := 0, cells := 0, slots := 0, locals := 0 }
theorem cmL_low : CM yL_low cL_low 2 (some .int) 2 := ⟨k_703, k_21, by decide +kernel⟩
theorem smL_low : Cond.static yL_low ∈ GW := k_702
def rmL_tale : Room := { frames := 7, cells := 0, slots := 0, locals := 173 }
theorem cmL_tale : CM yL_tale cL_tale 5 (some .long) 1 := ⟨k_707, k_21, by decide +kernel⟩
theorem smL_tale : Cond.static yL_tale ∈ GW := k_706
def rmL_does : Room := { frames := 7, cells := 0, slots := 0, locals := 160 }
theorem cmL_does : CM yL_does cL_does 3 (some .int) 2 := ⟨k_744, k_21, by decide +kernel⟩
theorem smL_does : Cond.static yL_does ∈ GW := k_743
