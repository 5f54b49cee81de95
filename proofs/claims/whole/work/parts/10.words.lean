/-! THE TABLES' WORDS, by their places -/
theorem k_0 : Cond.selects "PulseRemote" ⟨"PulseRemote", "saveState", "()V"⟩ ⟨"PulseRemote", "saveState", "()V"⟩ ∈ GW := gw_of (List.mem_of_getElem? (i := 0) (by decide +kernel)) rfl
theorem k_1 : Cond.selects "PulseRemote$FrameList" ⟨"PulseRemote$FrameList", "note", "(II)V"⟩ ⟨"PulseRemote$FrameList", "note", "(II)V"⟩ ∈ GW := gw_of (List.mem_of_getElem? (i := 1) (by decide +kernel)) rfl
theorem k_2 : Cond.selects "PulseRemote$Learner" ⟨"PulseRemote$Learner", "insertAll", "(LPulseRemote$FrameList;I)V"⟩ ⟨"PulseRemote$Learner", "insertAll", "(LPulseRemote$FrameList;I)V"⟩ ∈ GW := gw_of (List.mem_of_getElem? (i := 2) (by decide +kernel)) rfl
theorem k_3 : Cond.selects "PulseRemote$Clusters" ⟨"PulseRemote$Clusters", "mean", "(II)I"⟩ ⟨"PulseRemote$Clusters", "mean", "(II)I"⟩ ∈ GW := gw_of (List.mem_of_getElem? (i := 3) (by decide +kernel)) rfl
theorem k_4 : Cond.selects "PulseRemote$Clusters" ⟨"PulseRemote$Clusters", "noteCluster", "(I)V"⟩ ⟨"PulseRemote$Clusters", "noteCluster", "(I)V"⟩ ∈ GW := gw_of (List.mem_of_getElem? (i := 4) (by decide +kernel)) rfl
theorem k_5 : Cond.selects "PulseRemote$Learner" ⟨"PulseRemote$Learner", "makeProtocol", "(IILPulseRemote$Clusters;LPulseRemote$Clusters;)Z"⟩ ⟨"PulseRemote$Learner", "makeProtocol", "(IILPulseRemote$Clusters;LPulseRemote$Clusters;)Z"⟩ ∈ GW := gw_of (List.mem_of_getElem? (i := 5) (by decide +kernel)) rfl
theorem k_6 : Cond.selects "PulseRemote$Text" ⟨"PulseRemote$Text", "takeToken", "()V"⟩ ⟨"PulseRemote$Text", "takeToken", "()V"⟩ ∈ GW := gw_of (List.mem_of_getElem? (i := 6) (by decide +kernel)) rfl
theorem k_7 : Cond.selects "PulseRemote$Text" ⟨"PulseRemote$Text", "at", "(I)C"⟩ ⟨"PulseRemote$Text", "at", "(I)C"⟩ ∈ GW := gw_of (List.mem_of_getElem? (i := 7) (by decide +kernel)) rfl
theorem k_8 : Cond.selects "PulseRemote$Text" ⟨"PulseRemote$Text", "kindAt", "(I)I"⟩ ⟨"PulseRemote$Text", "kindAt", "(I)I"⟩ ∈ GW := gw_of (List.mem_of_getElem? (i := 8) (by decide +kernel)) rfl
theorem k_9 : Cond.selects "PulseRemote$Text" ⟨"PulseRemote$Text", "readItem", "(LPulseRemote$Table;)Z"⟩ ⟨"PulseRemote$Text", "readItem", "(LPulseRemote$Table;)Z"⟩ ∈ GW := gw_of (List.mem_of_getElem? (i := 9) (by decide +kernel)) rfl
theorem k_10 : Cond.selects "PulseRemote$Text" ⟨"PulseRemote$Text", "isWord", "(Ljava/lang/String;)Z"⟩ ⟨"PulseRemote$Text", "isWord", "(Ljava/lang/String;)Z"⟩ ∈ GW := gw_of (List.mem_of_getElem? (i := 10) (by decide +kernel)) rfl
theorem k_11 : Cond.selects "PulseRemote$Text" ⟨"PulseRemote$Text", "readProtocol", "(LPulseRemote$Table;)Z"⟩ ⟨"PulseRemote$Text", "readProtocol", "(LPulseRemote$Table;)Z"⟩ ∈ GW := gw_of (List.mem_of_getElem? (i := 11) (by decide +kernel)) rfl
theorem k_12 : Cond.selects "PulseRemote$Text" ⟨"PulseRemote$Text", "readNumber", "(II)I"⟩ ⟨"PulseRemote$Text", "readNumber", "(II)I"⟩ ∈ GW := gw_of (List.mem_of_getElem? (i := 12) (by decide +kernel)) rfl
theorem k_13 : Cond.selects "PulseRemote$Text" ⟨"PulseRemote$Text", "readEnd", "()Z"⟩ ⟨"PulseRemote$Text", "readEnd", "()Z"⟩ ∈ GW := gw_of (List.mem_of_getElem? (i := 13) (by decide +kernel)) rfl
theorem k_14 : Cond.selects "PulseRemote$Text" ⟨"PulseRemote$Text", "readButton", "(LPulseRemote$Table;)Z"⟩ ⟨"PulseRemote$Text", "readButton", "(LPulseRemote$Table;)Z"⟩ ∈ GW := gw_of (List.mem_of_getElem? (i := 14) (by decide +kernel)) rfl
theorem k_15 : Cond.selects "PulseRemote$Protocol" ⟨"PulseRemote$Protocol", "writeBit", "(ZILPulseRemote$Train;)V"⟩ ⟨"PulseRemote$Protocol", "writeBit", "(ZILPulseRemote$Train;)V"⟩ ∈ GW := gw_of (List.mem_of_getElem? (i := 15) (by decide +kernel)) rfl
theorem k_16 : Cond.selects "PulseRemote" ⟨"PulseRemote", "appendScratch", "(LPulseRemote$Train;I)I"⟩ ⟨"PulseRemote", "appendScratch", "(LPulseRemote$Train;I)I"⟩ ∈ GW := gw_of (List.mem_of_getElem? (i := 16) (by decide +kernel)) rfl
theorem k_17 : Cond.selects "PulseRemote$Collision" ⟨"PulseRemote$Collision", "takeMark", "()V"⟩ ⟨"PulseRemote$Collision", "takeMark", "()V"⟩ ∈ GW := gw_of (List.mem_of_getElem? (i := 17) (by decide +kernel)) rfl
theorem k_18 : Cond.selects "PulseRemote$Decoder" ⟨"PulseRemote$Decoder", "take", "(LPulseRemote$FrameList;I)Z"⟩ ⟨"PulseRemote$Decoder", "take", "(LPulseRemote$FrameList;I)Z"⟩ ∈ GW := gw_of (List.mem_of_getElem? (i := 18) (by decide +kernel)) rfl
theorem k_19 : Cond.selects "PulseRemote$Decoder" ⟨"PulseRemote$Decoder", "phaseCode", "(LPulseRemote$Protocol;)I"⟩ ⟨"PulseRemote$Decoder", "phaseCode", "(LPulseRemote$Protocol;)I"⟩ ∈ GW := gw_of (List.mem_of_getElem? (i := 19) (by decide +kernel)) rfl
theorem k_20 : Cond.selects "PulseRemote$Decoder" ⟨"PulseRemote$Decoder", "fits", "(II)Z"⟩ ⟨"PulseRemote$Decoder", "fits", "(II)Z"⟩ ∈ GW := gw_of (List.mem_of_getElem? (i := 20) (by decide +kernel)) rfl
theorem k_21 : Cond.selects "PulseRemote$Decoder" ⟨"PulseRemote$Decoder", "placesOf", "(I)J"⟩ ⟨"PulseRemote$Decoder", "placesOf", "(I)J"⟩ ∈ GW := gw_of (List.mem_of_getElem? (i := 21) (by decide +kernel)) rfl
theorem k_22 : Cond.selects "PulseRemote$Decoder" ⟨"PulseRemote$Decoder", "restOfPhaseCode", "(LPulseRemote$Protocol;IJJ)I"⟩ ⟨"PulseRemote$Decoder", "restOfPhaseCode", "(LPulseRemote$Protocol;IJJ)I"⟩ ∈ GW := gw_of (List.mem_of_getElem? (i := 22) (by decide +kernel)) rfl
theorem k_23 : Cond.selects "PulseRemote$Decoder" ⟨"PulseRemote$Decoder", "plainCode", "(LPulseRemote$Protocol;)I"⟩ ⟨"PulseRemote$Decoder", "plainCode", "(LPulseRemote$Protocol;)I"⟩ ∈ GW := gw_of (List.mem_of_getElem? (i := 23) (by decide +kernel)) rfl
theorem k_24 : Cond.selects "PulseRemote$Decoder" ⟨"PulseRemote$Decoder", "protocolOfShortFrame", "(LPulseRemote$Table;)I"⟩ ⟨"PulseRemote$Decoder", "protocolOfShortFrame", "(LPulseRemote$Table;)I"⟩ ∈ GW := gw_of (List.mem_of_getElem? (i := 24) (by decide +kernel)) rfl
theorem k_25 : Cond.selects "PulseRemote" ⟨"PulseRemote", "worstDeviation", "(ILPulseRemote$Train;)I"⟩ ⟨"PulseRemote", "worstDeviation", "(ILPulseRemote$Train;)I"⟩ ∈ GW := gw_of (List.mem_of_getElem? (i := 25) (by decide +kernel)) rfl
theorem k_26 : Cond.selects "PulseRemote$PressList" ⟨"PulseRemote$PressList", "continuesLatest", "(LPulseRemote$Decoder;LPulseRemote$Table;)Z"⟩ ⟨"PulseRemote$PressList", "continuesLatest", "(LPulseRemote$Decoder;LPulseRemote$Table;)Z"⟩ ∈ GW := gw_of (List.mem_of_getElem? (i := 26) (by decide +kernel)) rfl
theorem k_27 : Cond.selects "PulseRemote$PressList" ⟨"PulseRemote$PressList", "countLatest", "()V"⟩ ⟨"PulseRemote$PressList", "countLatest", "()V"⟩ ∈ GW := gw_of (List.mem_of_getElem? (i := 27) (by decide +kernel)) rfl
theorem k_28 : Cond.selects "PulseRemote$PressList" ⟨"PulseRemote$PressList", "begin", "(LPulseRemote$Decoder;)V"⟩ ⟨"PulseRemote$PressList", "begin", "(LPulseRemote$Decoder;)V"⟩ ∈ GW := gw_of (List.mem_of_getElem? (i := 28) (by decide +kernel)) rfl
theorem k_29 : Cond.selects "PulseRemote" ⟨"PulseRemote", "toleranceFor", "(II)I"⟩ ⟨"PulseRemote", "toleranceFor", "(II)I"⟩ ∈ GW := gw_of (List.mem_of_getElem? (i := 29) (by decide +kernel)) rfl
theorem k_30 : Cond.selects "PulseRemote" ⟨"PulseRemote", "writeButtonFrames", "()V"⟩ ⟨"PulseRemote", "writeButtonFrames", "()V"⟩ ∈ GW := gw_of (List.mem_of_getElem? (i := 30) (by decide +kernel)) rfl
theorem k_31 : Cond.selects "PulseRemote" ⟨"PulseRemote", "buttonFrameAt", "(I)LPulseRemote$Train;"⟩ ⟨"PulseRemote", "buttonFrameAt", "(I)LPulseRemote$Train;"⟩ ∈ GW := gw_of (List.mem_of_getElem? (i := 31) (by decide +kernel)) rfl
theorem k_32 : Cond.selects "PulseRemote" ⟨"PulseRemote", "explainingOffset", "(LPulseRemote$Train;LPulseRemote$Train;LPulseRemote$Train;I)I"⟩ ⟨"PulseRemote", "explainingOffset", "(LPulseRemote$Train;LPulseRemote$Train;LPulseRemote$Train;I)I"⟩ ∈ GW := gw_of (List.mem_of_getElem? (i := 32) (by decide +kernel)) rfl
theorem k_33 : Cond.selects "PulseRemote" ⟨"PulseRemote", "isCollision", "(LPulseRemote$Train;I)Z"⟩ ⟨"PulseRemote", "isCollision", "(LPulseRemote$Train;I)Z"⟩ ∈ GW := gw_of (List.mem_of_getElem? (i := 33) (by decide +kernel)) rfl
theorem k_34 : Cond.selects "PulseRemote" ⟨"PulseRemote", "showsGhost", "(III)Z"⟩ ⟨"PulseRemote", "showsGhost", "(III)Z"⟩ ∈ GW := gw_of (List.mem_of_getElem? (i := 34) (by decide +kernel)) rfl
theorem k_35 : Cond.selects "PulseRemoteModel" ⟨"PulseRemoteModel", "note", "()V"⟩ ⟨"PulseRemoteModel", "note", "()V"⟩ ∈ GW := gw_of (List.mem_of_getElem? (i := 35) (by decide +kernel)) rfl
theorem k_36 : Cond.selects "PulseRemoteModel" ⟨"PulseRemoteModel", "addsProtocol", "(IIII)V"⟩ ⟨"PulseRemoteModel", "addsProtocol", "(IIII)V"⟩ ∈ GW := gw_of (List.mem_of_getElem? (i := 36) (by decide +kernel)) rfl
theorem k_37 : Cond.selects "PulseRemoteModel" ⟨"PulseRemoteModel", "setsLengths", "(IIIIII)V"⟩ ⟨"PulseRemoteModel", "setsLengths", "(IIIIII)V"⟩ ∈ GW := gw_of (List.mem_of_getElem? (i := 37) (by decide +kernel)) rfl
theorem k_38 : Cond.selects "PulseRemoteModel" ⟨"PulseRemoteModel", "isProtocol", "(I)Z"⟩ ⟨"PulseRemoteModel", "isProtocol", "(I)Z"⟩ ∈ GW := gw_of (List.mem_of_getElem? (i := 38) (by decide +kernel)) rfl
theorem k_39 : Cond.selects "PulseRemoteModel" ⟨"PulseRemoteModel", "isCode", "(II)Z"⟩ ⟨"PulseRemoteModel", "isCode", "(II)Z"⟩ ∈ GW := gw_of (List.mem_of_getElem? (i := 39) (by decide +kernel)) rfl
theorem k_40 : Cond.selects "PulseRemoteModel" ⟨"PulseRemoteModel", "identity", "(II)I"⟩ ⟨"PulseRemoteModel", "identity", "(II)I"⟩ ∈ GW := gw_of (List.mem_of_getElem? (i := 40) (by decide +kernel)) rfl
theorem k_41 : Cond.selects "PulseRemoteModel" ⟨"PulseRemoteModel", "buttonOf", "(II)I"⟩ ⟨"PulseRemoteModel", "buttonOf", "(II)I"⟩ ∈ GW := gw_of (List.mem_of_getElem? (i := 41) (by decide +kernel)) rfl
theorem k_42 : Cond.selects "PulseRemoteModel" ⟨"PulseRemoteModel", "addsButton", "(II)V"⟩ ⟨"PulseRemoteModel", "addsButton", "(II)V"⟩ ∈ GW := gw_of (List.mem_of_getElem? (i := 42) (by decide +kernel)) rfl
theorem k_43 : Cond.selects "PulseRemoteModel" ⟨"PulseRemoteModel", "sets", "(IIZ)I"⟩ ⟨"PulseRemoteModel", "sets", "(IIZ)I"⟩ ∈ GW := gw_of (List.mem_of_getElem? (i := 43) (by decide +kernel)) rfl
theorem k_44 : Cond.selects "PulseRemoteModel" ⟨"PulseRemoteModel", "readsToken", "()V"⟩ ⟨"PulseRemoteModel", "readsToken", "()V"⟩ ∈ GW := gw_of (List.mem_of_getElem? (i := 44) (by decide +kernel)) rfl
theorem k_45 : Cond.selects "PulseRemoteModel" ⟨"PulseRemoteModel", "here", "()I"⟩ ⟨"PulseRemoteModel", "here", "()I"⟩ ∈ GW := gw_of (List.mem_of_getElem? (i := 45) (by decide +kernel)) rfl
theorem k_46 : Cond.selects "PulseRemoteModel" ⟨"PulseRemoteModel", "takes", "(Z)V"⟩ ⟨"PulseRemoteModel", "takes", "(Z)V"⟩ ∈ GW := gw_of (List.mem_of_getElem? (i := 46) (by decide +kernel)) rfl
theorem k_47 : Cond.selects "PulseRemoteModel" ⟨"PulseRemoteModel", "readsProtocol", "()V"⟩ ⟨"PulseRemoteModel", "readsProtocol", "()V"⟩ ∈ GW := gw_of (List.mem_of_getElem? (i := 47) (by decide +kernel)) rfl
theorem k_48 : Cond.selects "PulseRemoteModel" ⟨"PulseRemoteModel", "takesNumber", "(II)I"⟩ ⟨"PulseRemoteModel", "takesNumber", "(II)I"⟩ ∈ GW := gw_of (List.mem_of_getElem? (i := 48) (by decide +kernel)) rfl
theorem k_49 : Cond.selects "PulseRemoteModel" ⟨"PulseRemoteModel", "readsButton", "()V"⟩ ⟨"PulseRemoteModel", "readsButton", "()V"⟩ ∈ GW := gw_of (List.mem_of_getElem? (i := 49) (by decide +kernel)) rfl
theorem k_50 : Cond.selects "PulseRemoteModel" ⟨"PulseRemoteModel", "exchanges", "()V"⟩ ⟨"PulseRemoteModel", "exchanges", "()V"⟩ ∈ GW := gw_of (List.mem_of_getElem? (i := 50) (by decide +kernel)) rfl
theorem k_51 : Cond.selects "PulseRemoteModel" ⟨"PulseRemoteModel", "makes", "(II)V"⟩ ⟨"PulseRemoteModel", "makes", "(II)V"⟩ ∈ GW := gw_of (List.mem_of_getElem? (i := 51) (by decide +kernel)) rfl
theorem k_52 : Cond.selects "PulseRemoteModel" ⟨"PulseRemoteModel", "lays", "(ZI)V"⟩ ⟨"PulseRemoteModel", "lays", "(ZI)V"⟩ ∈ GW := gw_of (List.mem_of_getElem? (i := 52) (by decide +kernel)) rfl
theorem k_53 : Cond.selects "PulseRemoteModel" ⟨"PulseRemoteModel", "isMark", "()Z"⟩ ⟨"PulseRemoteModel", "isMark", "()Z"⟩ ∈ GW := gw_of (List.mem_of_getElem? (i := 53) (by decide +kernel)) rfl
theorem k_54 : Cond.selects "PulseRemoteModel" ⟨"PulseRemoteModel", "bit", "(III)Z"⟩ ⟨"PulseRemoteModel", "bit", "(III)Z"⟩ ∈ GW := gw_of (List.mem_of_getElem? (i := 54) (by decide +kernel)) rfl
theorem k_55 : Cond.selects "PulseRemoteModel" ⟨"PulseRemoteModel", "sends", "(II)I"⟩ ⟨"PulseRemoteModel", "sends", "(II)I"⟩ ∈ GW := gw_of (List.mem_of_getElem? (i := 55) (by decide +kernel)) rfl
theorem k_56 : Cond.selects "PulseRemoteModel" ⟨"PulseRemoteModel", "makesShort", "(I)V"⟩ ⟨"PulseRemoteModel", "makesShort", "(I)V"⟩ ∈ GW := gw_of (List.mem_of_getElem? (i := 56) (by decide +kernel)) rfl
theorem k_57 : Cond.selects "PulseRemoteModel" ⟨"PulseRemoteModel", "looksAt", "(I)V"⟩ ⟨"PulseRemoteModel", "looksAt", "(I)V"⟩ ∈ GW := gw_of (List.mem_of_getElem? (i := 57) (by decide +kernel)) rfl
theorem k_58 : Cond.selects "PulseRemoteModel" ⟨"PulseRemoteModel", "overlays", "(I)V"⟩ ⟨"PulseRemoteModel", "overlays", "(I)V"⟩ ∈ GW := gw_of (List.mem_of_getElem? (i := 58) (by decide +kernel)) rfl
theorem k_59 : Cond.selects "PulseRemoteModel" ⟨"PulseRemoteModel", "opens", "(I)V"⟩ ⟨"PulseRemoteModel", "opens", "(I)V"⟩ ∈ GW := gw_of (List.mem_of_getElem? (i := 59) (by decide +kernel)) rfl
theorem k_60 : Cond.selects "PulseRemoteModel" ⟨"PulseRemoteModel", "findsFrames", "()V"⟩ ⟨"PulseRemoteModel", "findsFrames", "()V"⟩ ∈ GW := gw_of (List.mem_of_getElem? (i := 60) (by decide +kernel)) rfl
theorem k_61 : Cond.selects "PulseRemoteModel" ⟨"PulseRemoteModel", "decodes", "(I)Z"⟩ ⟨"PulseRemoteModel", "decodes", "(I)Z"⟩ ∈ GW := gw_of (List.mem_of_getElem? (i := 61) (by decide +kernel)) rfl
theorem k_62 : Cond.selects "PulseRemoteModel" ⟨"PulseRemoteModel", "codeOf", "(III)I"⟩ ⟨"PulseRemoteModel", "codeOf", "(III)I"⟩ ∈ GW := gw_of (List.mem_of_getElem? (i := 62) (by decide +kernel)) rfl
theorem k_63 : Cond.selects "PulseRemoteModel" ⟨"PulseRemoteModel", "readsPhase", "(III)I"⟩ ⟨"PulseRemoteModel", "readsPhase", "(III)I"⟩ ∈ GW := gw_of (List.mem_of_getElem? (i := 63) (by decide +kernel)) rfl
theorem k_64 : Cond.selects "PulseRemoteModel" ⟨"PulseRemoteModel", "matches", "(II)Z"⟩ ⟨"PulseRemoteModel", "matches", "(II)Z"⟩ ∈ GW := gw_of (List.mem_of_getElem? (i := 64) (by decide +kernel)) rfl
theorem k_65 : Cond.selects "PulseRemoteModel" ⟨"PulseRemoteModel", "isWhole", "(IIIII)Z"⟩ ⟨"PulseRemoteModel", "isWhole", "(IIIII)Z"⟩ ∈ GW := gw_of (List.mem_of_getElem? (i := 65) (by decide +kernel)) rfl
theorem k_66 : Cond.selects "PulseRemoteModel" ⟨"PulseRemoteModel", "goesOn", "(IIIIII)I"⟩ ⟨"PulseRemoteModel", "goesOn", "(IIIIII)I"⟩ ∈ GW := gw_of (List.mem_of_getElem? (i := 66) (by decide +kernel)) rfl
theorem k_67 : Cond.selects "PulseRemoteModel" ⟨"PulseRemoteModel", "match", "(III)Z"⟩ ⟨"PulseRemoteModel", "match", "(III)Z"⟩ ∈ GW := gw_of (List.mem_of_getElem? (i := 67) (by decide +kernel)) rfl
theorem k_68 : Cond.selects "PulseRemoteModel" ⟨"PulseRemoteModel", "readsBits", "(II)I"⟩ ⟨"PulseRemoteModel", "readsBits", "(II)I"⟩ ∈ GW := gw_of (List.mem_of_getElem? (i := 68) (by decide +kernel)) rfl
theorem k_69 : Cond.selects "PulseRemoteModel" ⟨"PulseRemoteModel", "ordered", "(II)I"⟩ ⟨"PulseRemoteModel", "ordered", "(II)I"⟩ ∈ GW := gw_of (List.mem_of_getElem? (i := 69) (by decide +kernel)) rfl
theorem k_70 : Cond.selects "PulseRemoteModel" ⟨"PulseRemoteModel", "isShort", "(III)Z"⟩ ⟨"PulseRemoteModel", "isShort", "(III)Z"⟩ ∈ GW := gw_of (List.mem_of_getElem? (i := 70) (by decide +kernel)) rfl
theorem k_71 : Cond.selects "PulseRemoteModel" ⟨"PulseRemoteModel", "findsPresses", "(I)V"⟩ ⟨"PulseRemoteModel", "findsPresses", "(I)V"⟩ ∈ GW := gw_of (List.mem_of_getElem? (i := 71) (by decide +kernel)) rfl
theorem k_72 : Cond.selects "PulseRemoteModel" ⟨"PulseRemoteModel", "findsClusters", "(I)V"⟩ ⟨"PulseRemoteModel", "findsClusters", "(I)V"⟩ ∈ GW := gw_of (List.mem_of_getElem? (i := 72) (by decide +kernel)) rfl
theorem k_73 : Cond.selects "PulseRemoteModel" ⟨"PulseRemoteModel", "meanOf", "(I)I"⟩ ⟨"PulseRemoteModel", "meanOf", "(I)I"⟩ ∈ GW := gw_of (List.mem_of_getElem? (i := 73) (by decide +kernel)) rfl
theorem k_74 : Cond.selects "PulseRemoteModel" ⟨"PulseRemoteModel", "collides", "(III)V"⟩ ⟨"PulseRemoteModel", "collides", "(III)V"⟩ ∈ GW := gw_of (List.mem_of_getElem? (i := 74) (by decide +kernel)) rfl
theorem k_75 : Cond.selects "PulseRemoteModel" ⟨"PulseRemoteModel", "isLike", "(I)Z"⟩ ⟨"PulseRemoteModel", "isLike", "(I)Z"⟩ ∈ GW := gw_of (List.mem_of_getElem? (i := 75) (by decide +kernel)) rfl
theorem k_77 : Cond.initialized "PulseRemote" ∈ GW := gw_of (List.mem_of_getElem? (i := 77) (by decide +kernel)) rfl
theorem k_78 : Cond.initialized "PulseRemote$State" ∈ GW := gw_of (List.mem_of_getElem? (i := 78) (by decide +kernel)) rfl
theorem k_79 : Cond.initialized "PulseRemote$Table" ∈ GW := gw_of (List.mem_of_getElem? (i := 79) (by decide +kernel)) rfl
theorem k_80 : Cond.initialized "PulseRemote$Protocol" ∈ GW := gw_of (List.mem_of_getElem? (i := 80) (by decide +kernel)) rfl
theorem k_81 : Cond.initialized "PulseRemote$Train" ∈ GW := gw_of (List.mem_of_getElem? (i := 81) (by decide +kernel)) rfl
theorem k_82 : Cond.initialized "PulseRemote$Text" ∈ GW := gw_of (List.mem_of_getElem? (i := 82) (by decide +kernel)) rfl
theorem k_83 : Cond.initialized "PulseRemote$FrameList" ∈ GW := gw_of (List.mem_of_getElem? (i := 83) (by decide +kernel)) rfl
theorem k_84 : Cond.initialized "PulseRemote$Decoder" ∈ GW := gw_of (List.mem_of_getElem? (i := 84) (by decide +kernel)) rfl
theorem k_85 : Cond.initialized "PulseRemote$PressList" ∈ GW := gw_of (List.mem_of_getElem? (i := 85) (by decide +kernel)) rfl
theorem k_86 : Cond.initialized "PulseRemote$Learner" ∈ GW := gw_of (List.mem_of_getElem? (i := 86) (by decide +kernel)) rfl
theorem k_87 : Cond.initialized "PulseRemote$Clusters" ∈ GW := gw_of (List.mem_of_getElem? (i := 87) (by decide +kernel)) rfl
theorem k_88 : Cond.initialized "PulseRemote$Collision" ∈ GW := gw_of (List.mem_of_getElem? (i := 88) (by decide +kernel)) rfl
theorem k_89 : Cond.initialized "PulseRemoteModel" ∈ GW := gw_of (List.mem_of_getElem? (i := 89) (by decide +kernel)) rfl
theorem k_90 : Cond.initialized "java/lang/System" ∈ GW := gw_of (List.mem_of_getElem? (i := 90) (by decide +kernel)) rfl
theorem k_91 : Cond.initialized "java/lang/Math" ∈ GW := gw_of (List.mem_of_getElem? (i := 91) (by decide +kernel)) rfl
theorem k_123 : Cond.fieldLink "PulseRemote$Protocol" 9 "PulseRemote$Protocol" "kind" "I" ∈ GW := gw_of (List.mem_of_getElem? (i := 123) (by decide +kernel)) rfl
theorem k_124 : Cond.fieldLinkNest "PulseRemote" 106 "PulseRemote$Protocol" "kind" "I" "PulseRemote" ∈ lw_tbl := List.mem_of_getElem? (i := 124) (by decide +kernel)
theorem k_125 : Cond.fieldLinkNest "PulseRemote$Decoder" 42 "PulseRemote$Protocol" "kind" "I" "PulseRemote" ∈ lw_tbl := List.mem_of_getElem? (i := 125) (by decide +kernel)
theorem k_126 : Cond.fieldLink "PulseRemote$Protocol" 24 "PulseRemote$Protocol" "headerMark" "I" ∈ GW := gw_of (List.mem_of_getElem? (i := 126) (by decide +kernel)) rfl
theorem k_127 : Cond.fieldLinkNest "PulseRemote" 123 "PulseRemote$Protocol" "headerMark" "I" "PulseRemote" ∈ lw_tbl := List.mem_of_getElem? (i := 127) (by decide +kernel)
theorem k_128 : Cond.fieldLinkNest "PulseRemote$Decoder" 74 "PulseRemote$Protocol" "headerMark" "I" "PulseRemote" ∈ lw_tbl := List.mem_of_getElem? (i := 128) (by decide +kernel)
theorem k_129 : Cond.fieldLink "PulseRemote$Protocol" 27 "PulseRemote$Protocol" "headerSpace" "I" ∈ GW := gw_of (List.mem_of_getElem? (i := 129) (by decide +kernel)) rfl
theorem k_130 : Cond.fieldLinkNest "PulseRemote" 126 "PulseRemote$Protocol" "headerSpace" "I" "PulseRemote" ∈ lw_tbl := List.mem_of_getElem? (i := 130) (by decide +kernel)
theorem k_131 : Cond.fieldLinkNest "PulseRemote$Decoder" 81 "PulseRemote$Protocol" "headerSpace" "I" "PulseRemote" ∈ lw_tbl := List.mem_of_getElem? (i := 131) (by decide +kernel)
theorem k_132 : Cond.fieldLink "PulseRemote$Protocol" 30 "PulseRemote$Protocol" "a" "I" ∈ GW := gw_of (List.mem_of_getElem? (i := 132) (by decide +kernel)) rfl
theorem k_133 : Cond.fieldLinkNest "PulseRemote" 116 "PulseRemote$Protocol" "a" "I" "PulseRemote" ∈ lw_tbl := List.mem_of_getElem? (i := 133) (by decide +kernel)
theorem k_134 : Cond.fieldLinkNest "PulseRemote$Decoder" 84 "PulseRemote$Protocol" "a" "I" "PulseRemote" ∈ lw_tbl := List.mem_of_getElem? (i := 134) (by decide +kernel)
theorem k_135 : Cond.fieldLink "PulseRemote$Protocol" 33 "PulseRemote$Protocol" "b" "I" ∈ GW := gw_of (List.mem_of_getElem? (i := 135) (by decide +kernel)) rfl
theorem k_136 : Cond.fieldLinkNest "PulseRemote" 129 "PulseRemote$Protocol" "b" "I" "PulseRemote" ∈ lw_tbl := List.mem_of_getElem? (i := 136) (by decide +kernel)
theorem k_137 : Cond.fieldLinkNest "PulseRemote$Decoder" 94 "PulseRemote$Protocol" "b" "I" "PulseRemote" ∈ lw_tbl := List.mem_of_getElem? (i := 137) (by decide +kernel)
theorem k_138 : Cond.fieldLink "PulseRemote$Protocol" 36 "PulseRemote$Protocol" "c" "I" ∈ GW := gw_of (List.mem_of_getElem? (i := 138) (by decide +kernel)) rfl
theorem k_139 : Cond.fieldLinkNest "PulseRemote" 132 "PulseRemote$Protocol" "c" "I" "PulseRemote" ∈ lw_tbl := List.mem_of_getElem? (i := 139) (by decide +kernel)
theorem k_140 : Cond.fieldLinkNest "PulseRemote$Decoder" 97 "PulseRemote$Protocol" "c" "I" "PulseRemote" ∈ lw_tbl := List.mem_of_getElem? (i := 140) (by decide +kernel)
theorem k_141 : Cond.fieldLink "PulseRemote$Protocol" 15 "PulseRemote$Protocol" "bits" "I" ∈ GW := gw_of (List.mem_of_getElem? (i := 141) (by decide +kernel)) rfl
theorem k_142 : Cond.fieldLinkNest "PulseRemote" 135 "PulseRemote$Protocol" "bits" "I" "PulseRemote" ∈ lw_tbl := List.mem_of_getElem? (i := 142) (by decide +kernel)
theorem k_143 : Cond.fieldLinkNest "PulseRemote$Text" 86 "PulseRemote$Protocol" "bits" "I" "PulseRemote" ∈ lw_tbl := List.mem_of_getElem? (i := 143) (by decide +kernel)
theorem k_144 : Cond.fieldLinkNest "PulseRemote$Decoder" 91 "PulseRemote$Protocol" "bits" "I" "PulseRemote" ∈ lw_tbl := List.mem_of_getElem? (i := 144) (by decide +kernel)
theorem k_145 : Cond.fieldLink "PulseRemote$Protocol" 18 "PulseRemote$Protocol" "order" "I" ∈ GW := gw_of (List.mem_of_getElem? (i := 145) (by decide +kernel)) rfl
theorem k_146 : Cond.fieldLinkNest "PulseRemote" 138 "PulseRemote$Protocol" "order" "I" "PulseRemote" ∈ lw_tbl := List.mem_of_getElem? (i := 146) (by decide +kernel)
theorem k_147 : Cond.fieldLink "PulseRemote$Protocol" 21 "PulseRemote$Protocol" "repetition" "I" ∈ GW := gw_of (List.mem_of_getElem? (i := 147) (by decide +kernel)) rfl
theorem k_148 : Cond.fieldLinkNest "PulseRemote$PressList" 102 "PulseRemote$Protocol" "repetition" "I" "PulseRemote" ∈ lw_tbl := List.mem_of_getElem? (i := 148) (by decide +kernel)
theorem k_149 : Cond.fieldLinkNest "PulseRemote" 141 "PulseRemote$Protocol" "repetition" "I" "PulseRemote" ∈ lw_tbl := List.mem_of_getElem? (i := 149) (by decide +kernel)
theorem k_150 : Cond.fieldLinkNest "PulseRemote$Decoder" 71 "PulseRemote$Protocol" "repetition" "I" "PulseRemote" ∈ lw_tbl := List.mem_of_getElem? (i := 150) (by decide +kernel)
theorem k_171 : Cond.fieldLink "PulseRemote$Table" 11 "PulseRemote$Table" "protocols" "[LPulseRemote$Protocol;" ∈ GW := gw_of (List.mem_of_getElem? (i := 171) (by decide +kernel)) rfl
theorem k_172 : Cond.fieldLink "PulseRemote$Table" 35 "PulseRemote$Table" "protocolCount" "I" ∈ GW := gw_of (List.mem_of_getElem? (i := 172) (by decide +kernel)) rfl
theorem k_173 : Cond.fieldLinkNest "PulseRemote$Decoder" 33 "PulseRemote$Table" "protocolCount" "I" "PulseRemote" ∈ lw_tbl := List.mem_of_getElem? (i := 173) (by decide +kernel)
theorem k_174 : Cond.fieldLinkNest "PulseRemote" 144 "PulseRemote$Table" "protocolCount" "I" "PulseRemote" ∈ lw_tbl := List.mem_of_getElem? (i := 174) (by decide +kernel)
theorem k_175 : Cond.fieldLinkNest "PulseRemote$Text" 83 "PulseRemote$Table" "protocolCount" "I" "PulseRemote" ∈ lw_tbl := List.mem_of_getElem? (i := 175) (by decide +kernel)
theorem k_176 : Cond.fieldLink "PulseRemote$Table" 17 "PulseRemote$Table" "buttonProtocols" "[I" ∈ GW := gw_of (List.mem_of_getElem? (i := 176) (by decide +kernel)) rfl
theorem k_177 : Cond.fieldLink "PulseRemote$Table" 21 "PulseRemote$Table" "buttonIdentities" "[I" ∈ GW := gw_of (List.mem_of_getElem? (i := 177) (by decide +kernel)) rfl
theorem k_178 : Cond.fieldLink "PulseRemote$Table" 39 "PulseRemote$Table" "buttonCount" "I" ∈ GW := gw_of (List.mem_of_getElem? (i := 178) (by decide +kernel)) rfl
theorem k_179 : Cond.fieldLinkNest "PulseRemote" 147 "PulseRemote$Table" "buttonCount" "I" "PulseRemote" ∈ lw_tbl := List.mem_of_getElem? (i := 179) (by decide +kernel)
theorem k_199 : Cond.fieldLink "PulseRemote$Train" 9 "PulseRemote$Train" "durations" "[I" ∈ GW := gw_of (List.mem_of_getElem? (i := 199) (by decide +kernel)) rfl
theorem k_200 : Cond.fieldLink "PulseRemote$Train" 15 "PulseRemote$Train" "size" "I" ∈ GW := gw_of (List.mem_of_getElem? (i := 200) (by decide +kernel)) rfl
theorem k_201 : Cond.fieldLinkNest "PulseRemote$FrameList" 33 "PulseRemote$Train" "size" "I" "PulseRemote" ∈ lw_tbl := List.mem_of_getElem? (i := 201) (by decide +kernel)
theorem k_202 : Cond.fieldLinkNest "PulseRemote$Collision" 44 "PulseRemote$Train" "size" "I" "PulseRemote" ∈ lw_tbl := List.mem_of_getElem? (i := 202) (by decide +kernel)
theorem k_203 : Cond.fieldLinkNest "PulseRemote$Protocol" 51 "PulseRemote$Train" "size" "I" "PulseRemote" ∈ lw_tbl := List.mem_of_getElem? (i := 203) (by decide +kernel)
theorem k_204 : Cond.fieldLinkNest "PulseRemote" 244 "PulseRemote$Train" "size" "I" "PulseRemote" ∈ lw_tbl := List.mem_of_getElem? (i := 204) (by decide +kernel)
theorem k_210 : Cond.fieldLink "PulseRemote$State" 12 "PulseRemote$State" "table" "LPulseRemote$Table;" ∈ GW := gw_of (List.mem_of_getElem? (i := 210) (by decide +kernel)) rfl
theorem k_211 : Cond.fieldLinkNest "PulseRemote$PressList" 46 "PulseRemote$State" "table" "LPulseRemote$Table;" "PulseRemote" ∈ lw_tbl := List.mem_of_getElem? (i := 211) (by decide +kernel)
theorem k_212 : Cond.fieldLinkNest "PulseRemote" 84 "PulseRemote$State" "table" "LPulseRemote$Table;" "PulseRemote" ∈ lw_tbl := List.mem_of_getElem? (i := 212) (by decide +kernel)
theorem k_213 : Cond.fieldLink "PulseRemote$State" 20 "PulseRemote$State" "trains" "[LPulseRemote$Train;" ∈ GW := gw_of (List.mem_of_getElem? (i := 213) (by decide +kernel)) rfl
theorem k_214 : Cond.fieldLink "PulseRemote$State" 24 "PulseRemote$State" "gap" "I" ∈ GW := gw_of (List.mem_of_getElem? (i := 214) (by decide +kernel)) rfl
theorem k_215 : Cond.fieldLinkNest "PulseRemote$PressList" 27 "PulseRemote$State" "gap" "I" "PulseRemote" ∈ lw_tbl := List.mem_of_getElem? (i := 215) (by decide +kernel)
theorem k_216 : Cond.fieldLinkNest "PulseRemote" 163 "PulseRemote$State" "gap" "I" "PulseRemote" ∈ lw_tbl := List.mem_of_getElem? (i := 216) (by decide +kernel)
theorem k_217 : Cond.fieldLink "PulseRemote$State" 29 "PulseRemote$State" "hold" "I" ∈ GW := gw_of (List.mem_of_getElem? (i := 217) (by decide +kernel)) rfl
theorem k_218 : Cond.fieldLinkNest "PulseRemote$PressList" 63 "PulseRemote$State" "hold" "I" "PulseRemote" ∈ lw_tbl := List.mem_of_getElem? (i := 218) (by decide +kernel)
theorem k_219 : Cond.fieldLinkNest "PulseRemote" 223 "PulseRemote$State" "hold" "I" "PulseRemote" ∈ lw_tbl := List.mem_of_getElem? (i := 219) (by decide +kernel)
theorem k_220 : Cond.fieldLink "PulseRemote$State" 32 "PulseRemote$State" "tolerance" "I" ∈ GW := gw_of (List.mem_of_getElem? (i := 220) (by decide +kernel)) rfl
theorem k_221 : Cond.fieldLinkNest "PulseRemote$PressList" 50 "PulseRemote$State" "tolerance" "I" "PulseRemote" ∈ lw_tbl := List.mem_of_getElem? (i := 221) (by decide +kernel)
theorem k_222 : Cond.fieldLinkNest "PulseRemote" 226 "PulseRemote$State" "tolerance" "I" "PulseRemote" ∈ lw_tbl := List.mem_of_getElem? (i := 222) (by decide +kernel)
theorem k_241 : Cond.fieldLink "PulseRemote$Text" 9 "PulseRemote$Text" "characters" "[C" ∈ GW := gw_of (List.mem_of_getElem? (i := 241) (by decide +kernel)) rfl
theorem k_242 : Cond.fieldLink "PulseRemote$Text" 15 "PulseRemote$Text" "size" "I" ∈ GW := gw_of (List.mem_of_getElem? (i := 242) (by decide +kernel)) rfl
theorem k_243 : Cond.fieldLinkNest "PulseRemote" 150 "PulseRemote$Text" "size" "I" "PulseRemote" ∈ lw_tbl := List.mem_of_getElem? (i := 243) (by decide +kernel)
theorem k_244 : Cond.fieldLink "PulseRemote$Text" 30 "PulseRemote$Text" "tokenKind" "I" ∈ GW := gw_of (List.mem_of_getElem? (i := 244) (by decide +kernel)) rfl
theorem k_245 : Cond.fieldLink "PulseRemote$Text" 99 "PulseRemote$Text" "tokenStart" "I" ∈ GW := gw_of (List.mem_of_getElem? (i := 245) (by decide +kernel)) rfl
theorem k_246 : Cond.fieldLinkNest "PulseRemote" 237 "PulseRemote$Text" "tokenStart" "I" "PulseRemote" ∈ lw_tbl := List.mem_of_getElem? (i := 246) (by decide +kernel)
theorem k_247 : Cond.fieldLink "PulseRemote$Text" 19 "PulseRemote$Text" "tokenEnd" "I" ∈ GW := gw_of (List.mem_of_getElem? (i := 247) (by decide +kernel)) rfl
theorem k_272 : Cond.fieldLink "PulseRemote$FrameList" 9 "PulseRemote$FrameList" "starts" "[I" ∈ GW := gw_of (List.mem_of_getElem? (i := 272) (by decide +kernel)) rfl
theorem k_273 : Cond.fieldLink "PulseRemote$FrameList" 15 "PulseRemote$FrameList" "sizes" "[I" ∈ GW := gw_of (List.mem_of_getElem? (i := 273) (by decide +kernel)) rfl
theorem k_274 : Cond.fieldLink "PulseRemote$FrameList" 29 "PulseRemote$FrameList" "total" "I" ∈ GW := gw_of (List.mem_of_getElem? (i := 274) (by decide +kernel)) rfl
theorem k_275 : Cond.fieldLinkNest "PulseRemote$PressList" 43 "PulseRemote$FrameList" "total" "I" "PulseRemote" ∈ lw_tbl := List.mem_of_getElem? (i := 275) (by decide +kernel)
theorem k_276 : Cond.fieldLinkNest "PulseRemote$Learner" 34 "PulseRemote$FrameList" "total" "I" "PulseRemote" ∈ lw_tbl := List.mem_of_getElem? (i := 276) (by decide +kernel)
theorem k_277 : Cond.fieldLinkNest "PulseRemote" 286 "PulseRemote$FrameList" "total" "I" "PulseRemote" ∈ lw_tbl := List.mem_of_getElem? (i := 277) (by decide +kernel)
theorem k_278 : Cond.fieldLink "PulseRemote$FrameList" 21 "PulseRemote$FrameList" "train" "LPulseRemote$Train;" ∈ GW := gw_of (List.mem_of_getElem? (i := 278) (by decide +kernel)) rfl
theorem k_294 : Cond.fieldLink "PulseRemote$Decoder" 9 "PulseRemote$Decoder" "protocol" "I" ∈ GW := gw_of (List.mem_of_getElem? (i := 294) (by decide +kernel)) rfl
theorem k_295 : Cond.fieldLinkNest "PulseRemote$PressList" 84 "PulseRemote$Decoder" "protocol" "I" "PulseRemote" ∈ lw_tbl := List.mem_of_getElem? (i := 295) (by decide +kernel)
theorem k_296 : Cond.fieldLinkNest "PulseRemote" 302 "PulseRemote$Decoder" "protocol" "I" "PulseRemote" ∈ lw_tbl := List.mem_of_getElem? (i := 296) (by decide +kernel)
theorem k_297 : Cond.fieldLink "PulseRemote$Decoder" 15 "PulseRemote$Decoder" "code" "I" ∈ GW := gw_of (List.mem_of_getElem? (i := 297) (by decide +kernel)) rfl
theorem k_298 : Cond.fieldLinkNest "PulseRemote$PressList" 90 "PulseRemote$Decoder" "code" "I" "PulseRemote" ∈ lw_tbl := List.mem_of_getElem? (i := 298) (by decide +kernel)
theorem k_299 : Cond.fieldLinkNest "PulseRemote" 305 "PulseRemote$Decoder" "code" "I" "PulseRemote" ∈ lw_tbl := List.mem_of_getElem? (i := 299) (by decide +kernel)
theorem k_300 : Cond.fieldLink "PulseRemote$Decoder" 18 "PulseRemote$Decoder" "durations" "[I" ∈ GW := gw_of (List.mem_of_getElem? (i := 300) (by decide +kernel)) rfl
theorem k_301 : Cond.fieldLink "PulseRemote$Decoder" 64 "PulseRemote$Decoder" "size" "I" ∈ GW := gw_of (List.mem_of_getElem? (i := 301) (by decide +kernel)) rfl
theorem k_302 : Cond.fieldLink "PulseRemote$Decoder" 26 "PulseRemote$Decoder" "tolerance" "I" ∈ GW := gw_of (List.mem_of_getElem? (i := 302) (by decide +kernel)) rfl
theorem k_303 : Cond.fieldLink "PulseRemote$Decoder" 22 "PulseRemote$Decoder" "open" "[J" ∈ GW := gw_of (List.mem_of_getElem? (i := 303) (by decide +kernel)) rfl
theorem k_324 : Cond.fieldLink "PulseRemote$PressList" 9 "PulseRemote$PressList" "protocols" "[I" ∈ GW := gw_of (List.mem_of_getElem? (i := 324) (by decide +kernel)) rfl
theorem k_325 : Cond.fieldLinkNest "PulseRemote" 322 "PulseRemote$PressList" "protocols" "[I" "PulseRemote" ∈ lw_tbl := List.mem_of_getElem? (i := 325) (by decide +kernel)
theorem k_326 : Cond.fieldLink "PulseRemote$PressList" 15 "PulseRemote$PressList" "codes" "[I" ∈ GW := gw_of (List.mem_of_getElem? (i := 326) (by decide +kernel)) rfl
theorem k_327 : Cond.fieldLinkNest "PulseRemote" 326 "PulseRemote$PressList" "codes" "[I" "PulseRemote" ∈ lw_tbl := List.mem_of_getElem? (i := 327) (by decide +kernel)
theorem k_328 : Cond.fieldLink "PulseRemote$PressList" 18 "PulseRemote$PressList" "counts" "[I" ∈ GW := gw_of (List.mem_of_getElem? (i := 328) (by decide +kernel)) rfl
theorem k_329 : Cond.fieldLinkNest "PulseRemote" 329 "PulseRemote$PressList" "counts" "[I" "PulseRemote" ∈ lw_tbl := List.mem_of_getElem? (i := 329) (by decide +kernel)
theorem k_330 : Cond.fieldLink "PulseRemote$PressList" 37 "PulseRemote$PressList" "listed" "I" ∈ GW := gw_of (List.mem_of_getElem? (i := 330) (by decide +kernel)) rfl
theorem k_331 : Cond.fieldLinkNest "PulseRemote" 319 "PulseRemote$PressList" "listed" "I" "PulseRemote" ∈ lw_tbl := List.mem_of_getElem? (i := 331) (by decide +kernel)
theorem k_332 : Cond.fieldLink "PulseRemote$PressList" 40 "PulseRemote$PressList" "strays" "I" ∈ GW := gw_of (List.mem_of_getElem? (i := 332) (by decide +kernel)) rfl
theorem k_333 : Cond.fieldLinkNest "PulseRemote" 335 "PulseRemote$PressList" "strays" "I" "PulseRemote" ∈ lw_tbl := List.mem_of_getElem? (i := 333) (by decide +kernel)
theorem k_334 : Cond.fieldLink "PulseRemote$PressList" 107 "PulseRemote$PressList" "latestIsListed" "Z" ∈ GW := gw_of (List.mem_of_getElem? (i := 334) (by decide +kernel)) rfl
theorem k_335 : Cond.fieldLink "PulseRemote$PressList" 87 "PulseRemote$PressList" "latestProtocol" "I" ∈ GW := gw_of (List.mem_of_getElem? (i := 335) (by decide +kernel)) rfl
theorem k_336 : Cond.fieldLink "PulseRemote$PressList" 93 "PulseRemote$PressList" "latestCode" "I" ∈ GW := gw_of (List.mem_of_getElem? (i := 336) (by decide +kernel)) rfl
theorem k_366 : Cond.fieldLink "PulseRemote$Clusters" 9 "PulseRemote$Clusters" "sorted" "[I" ∈ GW := gw_of (List.mem_of_getElem? (i := 366) (by decide +kernel)) rfl
theorem k_367 : Cond.fieldLink "PulseRemote$Clusters" 15 "PulseRemote$Clusters" "size" "I" ∈ GW := gw_of (List.mem_of_getElem? (i := 367) (by decide +kernel)) rfl
theorem k_368 : Cond.fieldLink "PulseRemote$Clusters" 19 "PulseRemote$Clusters" "clusterCount" "I" ∈ GW := gw_of (List.mem_of_getElem? (i := 368) (by decide +kernel)) rfl
theorem k_369 : Cond.fieldLinkNest "PulseRemote$Learner" 58 "PulseRemote$Clusters" "clusterCount" "I" "PulseRemote" ∈ lw_tbl := List.mem_of_getElem? (i := 369) (by decide +kernel)
theorem k_370 : Cond.fieldLinkNest "PulseRemote" 188 "PulseRemote$Clusters" "clusterCount" "I" "PulseRemote" ∈ lw_tbl := List.mem_of_getElem? (i := 370) (by decide +kernel)
theorem k_371 : Cond.fieldLink "PulseRemote$Clusters" 30 "PulseRemote$Clusters" "firstMean" "I" ∈ GW := gw_of (List.mem_of_getElem? (i := 371) (by decide +kernel)) rfl
theorem k_372 : Cond.fieldLinkNest "PulseRemote$Learner" 71 "PulseRemote$Clusters" "firstMean" "I" "PulseRemote" ∈ lw_tbl := List.mem_of_getElem? (i := 372) (by decide +kernel)
theorem k_373 : Cond.fieldLink "PulseRemote$Clusters" 33 "PulseRemote$Clusters" "secondMean" "I" ∈ GW := gw_of (List.mem_of_getElem? (i := 373) (by decide +kernel)) rfl
theorem k_374 : Cond.fieldLinkNest "PulseRemote$Learner" 80 "PulseRemote$Clusters" "secondMean" "I" "PulseRemote" ∈ lw_tbl := List.mem_of_getElem? (i := 374) (by decide +kernel)
theorem k_386 : Cond.fieldLink "PulseRemote$Learner" 12 "PulseRemote$Learner" "marks" "LPulseRemote$Clusters;" ∈ GW := gw_of (List.mem_of_getElem? (i := 386) (by decide +kernel)) rfl
theorem k_387 : Cond.fieldLinkNest "PulseRemote" 184 "PulseRemote$Learner" "marks" "LPulseRemote$Clusters;" "PulseRemote" ∈ lw_tbl := List.mem_of_getElem? (i := 387) (by decide +kernel)
theorem k_388 : Cond.fieldLink "PulseRemote$Learner" 18 "PulseRemote$Learner" "spaces" "LPulseRemote$Clusters;" ∈ GW := gw_of (List.mem_of_getElem? (i := 388) (by decide +kernel)) rfl
theorem k_389 : Cond.fieldLinkNest "PulseRemote" 193 "PulseRemote$Learner" "spaces" "LPulseRemote$Clusters;" "PulseRemote" ∈ lw_tbl := List.mem_of_getElem? (i := 389) (by decide +kernel)
theorem k_390 : Cond.fieldLink "PulseRemote$Learner" 27 "PulseRemote$Learner" "size" "I" ∈ GW := gw_of (List.mem_of_getElem? (i := 390) (by decide +kernel)) rfl
theorem k_391 : Cond.fieldLink "PulseRemote$Learner" 45 "PulseRemote$Learner" "headerMark" "I" ∈ GW := gw_of (List.mem_of_getElem? (i := 391) (by decide +kernel)) rfl
theorem k_392 : Cond.fieldLinkNest "PulseRemote" 179 "PulseRemote$Learner" "headerMark" "I" "PulseRemote" ∈ lw_tbl := List.mem_of_getElem? (i := 392) (by decide +kernel)
theorem k_393 : Cond.fieldLink "PulseRemote$Learner" 48 "PulseRemote$Learner" "headerSpace" "I" ∈ GW := gw_of (List.mem_of_getElem? (i := 393) (by decide +kernel)) rfl
theorem k_394 : Cond.fieldLinkNest "PulseRemote" 180 "PulseRemote$Learner" "headerSpace" "I" "PulseRemote" ∈ lw_tbl := List.mem_of_getElem? (i := 394) (by decide +kernel)
theorem k_395 : Cond.fieldLink "PulseRemote$Learner" 65 "PulseRemote$Learner" "kind" "I" ∈ GW := gw_of (List.mem_of_getElem? (i := 395) (by decide +kernel)) rfl
theorem k_396 : Cond.fieldLinkNest "PulseRemote" 177 "PulseRemote$Learner" "kind" "I" "PulseRemote" ∈ lw_tbl := List.mem_of_getElem? (i := 396) (by decide +kernel)
theorem k_397 : Cond.fieldLink "PulseRemote$Learner" 68 "PulseRemote$Learner" "bits" "I" ∈ GW := gw_of (List.mem_of_getElem? (i := 397) (by decide +kernel)) rfl
theorem k_398 : Cond.fieldLinkNest "PulseRemote" 178 "PulseRemote$Learner" "bits" "I" "PulseRemote" ∈ lw_tbl := List.mem_of_getElem? (i := 398) (by decide +kernel)
theorem k_399 : Cond.fieldLink "PulseRemote$Learner" 74 "PulseRemote$Learner" "a" "I" ∈ GW := gw_of (List.mem_of_getElem? (i := 399) (by decide +kernel)) rfl
theorem k_400 : Cond.fieldLinkNest "PulseRemote" 181 "PulseRemote$Learner" "a" "I" "PulseRemote" ∈ lw_tbl := List.mem_of_getElem? (i := 400) (by decide +kernel)
theorem k_401 : Cond.fieldLink "PulseRemote$Learner" 77 "PulseRemote$Learner" "b" "I" ∈ GW := gw_of (List.mem_of_getElem? (i := 401) (by decide +kernel)) rfl
theorem k_402 : Cond.fieldLinkNest "PulseRemote" 182 "PulseRemote$Learner" "b" "I" "PulseRemote" ∈ lw_tbl := List.mem_of_getElem? (i := 402) (by decide +kernel)
theorem k_403 : Cond.fieldLink "PulseRemote$Learner" 83 "PulseRemote$Learner" "c" "I" ∈ GW := gw_of (List.mem_of_getElem? (i := 403) (by decide +kernel)) rfl
theorem k_404 : Cond.fieldLinkNest "PulseRemote" 183 "PulseRemote$Learner" "c" "I" "PulseRemote" ∈ lw_tbl := List.mem_of_getElem? (i := 404) (by decide +kernel)
theorem k_434 : Cond.fieldLink "PulseRemote$Collision" 12 "PulseRemote$Collision" "first" "LPulseRemote$Train;" ∈ GW := gw_of (List.mem_of_getElem? (i := 434) (by decide +kernel)) rfl
theorem k_435 : Cond.fieldLink "PulseRemote$Collision" 18 "PulseRemote$Collision" "second" "LPulseRemote$Train;" ∈ GW := gw_of (List.mem_of_getElem? (i := 435) (by decide +kernel)) rfl
theorem k_436 : Cond.fieldLink "PulseRemote$Collision" 25 "PulseRemote$Collision" "firstIndex" "I" ∈ GW := gw_of (List.mem_of_getElem? (i := 436) (by decide +kernel)) rfl
theorem k_437 : Cond.fieldLink "PulseRemote$Collision" 29 "PulseRemote$Collision" "firstMoment" "I" ∈ GW := gw_of (List.mem_of_getElem? (i := 437) (by decide +kernel)) rfl
theorem k_438 : Cond.fieldLink "PulseRemote$Collision" 32 "PulseRemote$Collision" "secondIndex" "I" ∈ GW := gw_of (List.mem_of_getElem? (i := 438) (by decide +kernel)) rfl
theorem k_439 : Cond.fieldLink "PulseRemote$Collision" 35 "PulseRemote$Collision" "secondMoment" "I" ∈ GW := gw_of (List.mem_of_getElem? (i := 439) (by decide +kernel)) rfl
theorem k_440 : Cond.fieldLink "PulseRemote$Collision" 47 "PulseRemote$Collision" "hasMark" "Z" ∈ GW := gw_of (List.mem_of_getElem? (i := 440) (by decide +kernel)) rfl
theorem k_441 : Cond.fieldLink "PulseRemote$Collision" 51 "PulseRemote$Collision" "start" "I" ∈ GW := gw_of (List.mem_of_getElem? (i := 441) (by decide +kernel)) rfl
theorem k_442 : Cond.fieldLink "PulseRemote$Collision" 58 "PulseRemote$Collision" "end" "I" ∈ GW := gw_of (List.mem_of_getElem? (i := 442) (by decide +kernel)) rfl
theorem k_443 : Cond.fieldLink "PulseRemote$Collision" 38 "PulseRemote$Collision" "space" "I" ∈ GW := gw_of (List.mem_of_getElem? (i := 443) (by decide +kernel)) rfl
theorem k_465 : Cond.fieldLink "PulseRemote" 12 "PulseRemote" "state" "LPulseRemote$State;" ∈ GW := gw_of (List.mem_of_getElem? (i := 465) (by decide +kernel)) rfl
theorem k_466 : Cond.fieldLink "PulseRemote" 16 "PulseRemote" "saved" "[LPulseRemote$State;" ∈ GW := gw_of (List.mem_of_getElem? (i := 466) (by decide +kernel)) rfl
theorem k_467 : Cond.fieldLink "PulseRemote" 153 "PulseRemote" "savedCount" "I" ∈ GW := gw_of (List.mem_of_getElem? (i := 467) (by decide +kernel)) rfl
theorem k_468 : Cond.fieldLink "PulseRemote" 23 "PulseRemote" "text" "LPulseRemote$Text;" ∈ GW := gw_of (List.mem_of_getElem? (i := 468) (by decide +kernel)) rfl
theorem k_469 : Cond.fieldLink "PulseRemote" 30 "PulseRemote" "draft" "LPulseRemote$Table;" ∈ GW := gw_of (List.mem_of_getElem? (i := 469) (by decide +kernel)) rfl
theorem k_470 : Cond.fieldLink "PulseRemote" 37 "PulseRemote" "scratch" "LPulseRemote$Train;" ∈ GW := gw_of (List.mem_of_getElem? (i := 470) (by decide +kernel)) rfl
theorem k_471 : Cond.fieldLink "PulseRemote" 41 "PulseRemote" "buttonFrames" "[LPulseRemote$Train;" ∈ GW := gw_of (List.mem_of_getElem? (i := 471) (by decide +kernel)) rfl
theorem k_472 : Cond.fieldLink "PulseRemote" 48 "PulseRemote" "frames" "LPulseRemote$FrameList;" ∈ GW := gw_of (List.mem_of_getElem? (i := 472) (by decide +kernel)) rfl
theorem k_473 : Cond.fieldLink "PulseRemote" 55 "PulseRemote" "decoder" "LPulseRemote$Decoder;" ∈ GW := gw_of (List.mem_of_getElem? (i := 473) (by decide +kernel)) rfl
theorem k_474 : Cond.fieldLink "PulseRemote" 62 "PulseRemote" "presses" "LPulseRemote$PressList;" ∈ GW := gw_of (List.mem_of_getElem? (i := 474) (by decide +kernel)) rfl
theorem k_475 : Cond.fieldLink "PulseRemote" 69 "PulseRemote" "learner" "LPulseRemote$Learner;" ∈ GW := gw_of (List.mem_of_getElem? (i := 475) (by decide +kernel)) rfl
theorem k_476 : Cond.fieldLink "PulseRemote" 76 "PulseRemote" "collision" "LPulseRemote$Collision;" ∈ GW := gw_of (List.mem_of_getElem? (i := 476) (by decide +kernel)) rfl
theorem k_503 : Cond.instanceMethod ⟨"PulseRemote", "addProtocol", "(IIII)I"⟩ ∈ GW := gw_of (List.mem_of_getElem? (i := 503) (by decide +kernel)) rfl
theorem k_504 : Cond.selects "PulseRemote" ⟨"PulseRemote", "addProtocol", "(IIII)I"⟩ ⟨"PulseRemote", "addProtocol", "(IIII)I"⟩ ∈ GW := gw_of (List.mem_of_getElem? (i := 504) (by decide +kernel)) rfl
theorem k_505 : Cond.code yX11_addProtocol cX11_addProtocol 5 (some .int) ∈ GW := gw_of (List.mem_of_getElem? (i := 505) (by decide +kernel)) rfl
theorem k_506 : Cond.methodLink "PulseRemote" 80 ⟨"PulseRemote", "inRange", "(III)Z"⟩ ∈ GW := gw_of (List.mem_of_getElem? (i := 506) (by decide +kernel)) rfl
theorem k_507 : Cond.static ⟨"PulseRemote", "inRange", "(III)Z"⟩ ∈ GW := gw_of (List.mem_of_getElem? (i := 507) (by decide +kernel)) rfl
theorem k_508 : Cond.code yX11_inRange cX11_inRange 3 (some .boolean) ∈ GW := gw_of (List.mem_of_getElem? (i := 508) (by decide +kernel)) rfl
theorem k_509 : Cond.methodLink "PulseRemote" 87 ⟨"PulseRemote$Table", "protocolsFull", "()Z"⟩ ∈ GW := gw_of (List.mem_of_getElem? (i := 509) (by decide +kernel)) rfl
theorem k_510 : Cond.instanceMethod ⟨"PulseRemote$Table", "protocolsFull", "()Z"⟩ ∈ GW := gw_of (List.mem_of_getElem? (i := 510) (by decide +kernel)) rfl
theorem k_511 : Cond.selects "PulseRemote$Table" ⟨"PulseRemote$Table", "protocolsFull", "()Z"⟩ ⟨"PulseRemote$Table", "protocolsFull", "()Z"⟩ ∈ GW := gw_of (List.mem_of_getElem? (i := 511) (by decide +kernel)) rfl
theorem k_512 : Cond.code yX8_protocolsFull cX8_protocolsFull 1 (some .boolean) ∈ GW := gw_of (List.mem_of_getElem? (i := 512) (by decide +kernel)) rfl
theorem k_513 : Cond.methodLink "PulseRemote" 91 ⟨"PulseRemote", "saveState", "()V"⟩ ∈ GW := gw_of (List.mem_of_getElem? (i := 513) (by decide +kernel)) rfl
theorem k_515 : Cond.instanceMethod ⟨"PulseRemote", "saveState", "()V"⟩ ∈ GW := gw_of (List.mem_of_getElem? (i := 515) (by decide +kernel)) rfl
theorem k_516 : Cond.code yX11_saveState cX11_saveState 3 none ∈ GW := gw_of (List.mem_of_getElem? (i := 516) (by decide +kernel)) rfl
theorem k_517 : Cond.methodLink "PulseRemote" 357 ⟨"PulseRemote$State", "copyFrom", "(LPulseRemote$State;)V"⟩ ∈ GW := gw_of (List.mem_of_getElem? (i := 517) (by decide +kernel)) rfl
theorem k_518 : Cond.instanceMethod ⟨"PulseRemote$State", "copyFrom", "(LPulseRemote$State;)V"⟩ ∈ GW := gw_of (List.mem_of_getElem? (i := 518) (by decide +kernel)) rfl
theorem k_519 : Cond.selects "PulseRemote$State" ⟨"PulseRemote$State", "copyFrom", "(LPulseRemote$State;)V"⟩ ⟨"PulseRemote$State", "copyFrom", "(LPulseRemote$State;)V"⟩ ∈ GW := gw_of (List.mem_of_getElem? (i := 519) (by decide +kernel)) rfl
theorem k_520 : Cond.code yX7_copyFrom cX7_copyFrom 3 none ∈ GW := gw_of (List.mem_of_getElem? (i := 520) (by decide +kernel)) rfl
theorem k_521 : Cond.methodLink "PulseRemote$State" 40 ⟨"PulseRemote$Table", "copyFrom", "(LPulseRemote$Table;)V"⟩ ∈ GW := gw_of (List.mem_of_getElem? (i := 521) (by decide +kernel)) rfl
theorem k_522 : Cond.instanceMethod ⟨"PulseRemote$Table", "copyFrom", "(LPulseRemote$Table;)V"⟩ ∈ GW := gw_of (List.mem_of_getElem? (i := 522) (by decide +kernel)) rfl
theorem k_523 : Cond.selects "PulseRemote$Table" ⟨"PulseRemote$Table", "copyFrom", "(LPulseRemote$Table;)V"⟩ ⟨"PulseRemote$Table", "copyFrom", "(LPulseRemote$Table;)V"⟩ ∈ GW := gw_of (List.mem_of_getElem? (i := 523) (by decide +kernel)) rfl
theorem k_524 : Cond.code yX8_copyFrom cX8_copyFrom 3 none ∈ GW := gw_of (List.mem_of_getElem? (i := 524) (by decide +kernel)) rfl
theorem k_525 : Cond.methodLink "PulseRemote$Table" 25 ⟨"PulseRemote$Protocol", "copyFrom", "(LPulseRemote$Protocol;)V"⟩ ∈ GW := gw_of (List.mem_of_getElem? (i := 525) (by decide +kernel)) rfl
theorem k_526 : Cond.instanceMethod ⟨"PulseRemote$Protocol", "copyFrom", "(LPulseRemote$Protocol;)V"⟩ ∈ GW := gw_of (List.mem_of_getElem? (i := 526) (by decide +kernel)) rfl
theorem k_527 : Cond.selects "PulseRemote$Protocol" ⟨"PulseRemote$Protocol", "copyFrom", "(LPulseRemote$Protocol;)V"⟩ ⟨"PulseRemote$Protocol", "copyFrom", "(LPulseRemote$Protocol;)V"⟩ ∈ GW := gw_of (List.mem_of_getElem? (i := 527) (by decide +kernel)) rfl
theorem k_528 : Cond.code yX6_copyFrom cX6_copyFrom 2 none ∈ GW := gw_of (List.mem_of_getElem? (i := 528) (by decide +kernel)) rfl
theorem k_529 : Cond.methodLink "PulseRemote$Protocol" 39 ⟨"PulseRemote$Protocol", "useShape", "(IIII)V"⟩ ∈ GW := gw_of (List.mem_of_getElem? (i := 529) (by decide +kernel)) rfl
theorem k_530 : Cond.instanceMethod ⟨"PulseRemote$Protocol", "useShape", "(IIII)V"⟩ ∈ GW := gw_of (List.mem_of_getElem? (i := 530) (by decide +kernel)) rfl
theorem k_531 : Cond.selects "PulseRemote$Protocol" ⟨"PulseRemote$Protocol", "useShape", "(IIII)V"⟩ ⟨"PulseRemote$Protocol", "useShape", "(IIII)V"⟩ ∈ GW := gw_of (List.mem_of_getElem? (i := 531) (by decide +kernel)) rfl
theorem k_532 : Cond.code yX6_useShape cX6_useShape 5 none ∈ GW := gw_of (List.mem_of_getElem? (i := 532) (by decide +kernel)) rfl
theorem k_533 : Cond.methodLink "PulseRemote$Protocol" 43 ⟨"PulseRemote$Protocol", "useLengths", "(IIIII)V"⟩ ∈ GW := gw_of (List.mem_of_getElem? (i := 533) (by decide +kernel)) rfl
theorem k_534 : Cond.instanceMethod ⟨"PulseRemote$Protocol", "useLengths", "(IIIII)V"⟩ ∈ GW := gw_of (List.mem_of_getElem? (i := 534) (by decide +kernel)) rfl
theorem k_535 : Cond.selects "PulseRemote$Protocol" ⟨"PulseRemote$Protocol", "useLengths", "(IIIII)V"⟩ ⟨"PulseRemote$Protocol", "useLengths", "(IIIII)V"⟩ ∈ GW := gw_of (List.mem_of_getElem? (i := 535) (by decide +kernel)) rfl
theorem k_536 : Cond.code yX6_useLengths cX6_useLengths 6 none ∈ GW := gw_of (List.mem_of_getElem? (i := 536) (by decide +kernel)) rfl
theorem k_537 : Cond.methodLink "PulseRemote$Table" 29 ⟨"java/lang/System", "arraycopy", "(Ljava/lang/Object;ILjava/lang/Object;II)V"⟩ ∈ GW := gw_of (List.mem_of_getElem? (i := 537) (by decide +kernel)) rfl
theorem k_538 : Cond.static arraycopyName ∈ GW := gw_of (List.mem_of_getElem? (i := 538) (by decide +kernel)) rfl
theorem k_539 : Cond.native arraycopyName ∈ GW := gw_of (List.mem_of_getElem? (i := 539) (by decide +kernel)) rfl
theorem k_540 : Cond.methodLink "PulseRemote$State" 44 ⟨"PulseRemote$Train", "copyFrom", "(LPulseRemote$Train;)V"⟩ ∈ GW := gw_of (List.mem_of_getElem? (i := 540) (by decide +kernel)) rfl
theorem k_541 : Cond.instanceMethod ⟨"PulseRemote$Train", "copyFrom", "(LPulseRemote$Train;)V"⟩ ∈ GW := gw_of (List.mem_of_getElem? (i := 541) (by decide +kernel)) rfl
theorem k_542 : Cond.selects "PulseRemote$Train" ⟨"PulseRemote$Train", "copyFrom", "(LPulseRemote$Train;)V"⟩ ⟨"PulseRemote$Train", "copyFrom", "(LPulseRemote$Train;)V"⟩ ∈ GW := gw_of (List.mem_of_getElem? (i := 542) (by decide +kernel)) rfl
theorem k_543 : Cond.code yX10_copyFrom cX10_copyFrom 2 none ∈ GW := gw_of (List.mem_of_getElem? (i := 543) (by decide +kernel)) rfl
theorem k_544 : Cond.methodLink "PulseRemote$Train" 31 ⟨"java/lang/Math", "max", "(II)I"⟩ ∈ GW := gw_of (List.mem_of_getElem? (i := 544) (by decide +kernel)) rfl
theorem k_545 : Cond.static Lib.Math.max.name ∈ GW := gw_of (List.mem_of_getElem? (i := 545) (by decide +kernel)) rfl
theorem k_546 : Cond.code Lib.Math.max.name Lib.Math.max.code 2 (some .int) ∈ GW := gw_of (List.mem_of_getElem? (i := 546) (by decide +kernel)) rfl
theorem k_547 : Cond.methodLink "PulseRemote$Train" 38 ⟨"java/lang/Math", "min", "(II)I"⟩ ∈ GW := gw_of (List.mem_of_getElem? (i := 547) (by decide +kernel)) rfl
theorem k_548 : Cond.static Lib.Math.min.name ∈ GW := gw_of (List.mem_of_getElem? (i := 548) (by decide +kernel)) rfl
theorem k_549 : Cond.code Lib.Math.min.name Lib.Math.min.code 2 (some .int) ∈ GW := gw_of (List.mem_of_getElem? (i := 549) (by decide +kernel)) rfl
theorem k_550 : Cond.methodLink "PulseRemote$Train" 41 ⟨"java/lang/System", "arraycopy", "(Ljava/lang/Object;ILjava/lang/Object;II)V"⟩ ∈ GW := gw_of (List.mem_of_getElem? (i := 550) (by decide +kernel)) rfl
theorem k_551 : Cond.methodLink "PulseRemote" 94 ⟨"PulseRemote$Table", "newProtocol", "(IIII)I"⟩ ∈ GW := gw_of (List.mem_of_getElem? (i := 551) (by decide +kernel)) rfl
theorem k_552 : Cond.instanceMethod ⟨"PulseRemote$Table", "newProtocol", "(IIII)I"⟩ ∈ GW := gw_of (List.mem_of_getElem? (i := 552) (by decide +kernel)) rfl
theorem k_553 : Cond.selects "PulseRemote$Table" ⟨"PulseRemote$Table", "newProtocol", "(IIII)I"⟩ ⟨"PulseRemote$Table", "newProtocol", "(IIII)I"⟩ ∈ GW := gw_of (List.mem_of_getElem? (i := 553) (by decide +kernel)) rfl
theorem k_554 : Cond.code yX8_newProtocol cX8_newProtocol 6 (some .int) ∈ GW := gw_of (List.mem_of_getElem? (i := 554) (by decide +kernel)) rfl
theorem k_555 : Cond.methodLink "PulseRemote$Table" 42 ⟨"PulseRemote$Table", "protocolAt", "(I)LPulseRemote$Protocol;"⟩ ∈ GW := gw_of (List.mem_of_getElem? (i := 555) (by decide +kernel)) rfl
theorem k_556 : Cond.instanceMethod ⟨"PulseRemote$Table", "protocolAt", "(I)LPulseRemote$Protocol;"⟩ ∈ GW := gw_of (List.mem_of_getElem? (i := 556) (by decide +kernel)) rfl
theorem k_557 : Cond.selects "PulseRemote$Table" ⟨"PulseRemote$Table", "protocolAt", "(I)LPulseRemote$Protocol;"⟩ ⟨"PulseRemote$Table", "protocolAt", "(I)LPulseRemote$Protocol;"⟩ ∈ GW := gw_of (List.mem_of_getElem? (i := 557) (by decide +kernel)) rfl
theorem k_558 : Cond.code yX8_protocolAt cX8_protocolAt 2 (some (.object "PulseRemote$Protocol")) ∈ GW := gw_of (List.mem_of_getElem? (i := 558) (by decide +kernel)) rfl
theorem k_559 : Cond.methodLink "PulseRemote$Table" 46 ⟨"PulseRemote$Protocol", "useShape", "(IIII)V"⟩ ∈ GW := gw_of (List.mem_of_getElem? (i := 559) (by decide +kernel)) rfl
theorem k_560 : Cond.methodLink "PulseRemote$Table" 50 ⟨"PulseRemote$Protocol", "useLengths", "(IIIII)V"⟩ ∈ GW := gw_of (List.mem_of_getElem? (i := 560) (by decide +kernel)) rfl
theorem k_562 : Cond.instanceMethod ⟨"PulseRemote", "setLengths", "(IIIIII)I"⟩ ∈ GW := gw_of (List.mem_of_getElem? (i := 562) (by decide +kernel)) rfl
theorem k_563 : Cond.selects "PulseRemote" ⟨"PulseRemote", "setLengths", "(IIIIII)I"⟩ ⟨"PulseRemote", "setLengths", "(IIIIII)I"⟩ ∈ GW := gw_of (List.mem_of_getElem? (i := 563) (by decide +kernel)) rfl
theorem k_564 : Cond.code yX11_setLengths cX11_setLengths 9 (some .int) ∈ GW := gw_of (List.mem_of_getElem? (i := 564) (by decide +kernel)) rfl
theorem k_565 : Cond.methodLink "PulseRemote" 98 ⟨"PulseRemote$Table", "hasProtocol", "(I)Z"⟩ ∈ GW := gw_of (List.mem_of_getElem? (i := 565) (by decide +kernel)) rfl
theorem k_566 : Cond.instanceMethod ⟨"PulseRemote$Table", "hasProtocol", "(I)Z"⟩ ∈ GW := gw_of (List.mem_of_getElem? (i := 566) (by decide +kernel)) rfl
theorem k_567 : Cond.selects "PulseRemote$Table" ⟨"PulseRemote$Table", "hasProtocol", "(I)Z"⟩ ⟨"PulseRemote$Table", "hasProtocol", "(I)Z"⟩ ∈ GW := gw_of (List.mem_of_getElem? (i := 567) (by decide +kernel)) rfl
theorem k_568 : Cond.code yX8_hasProtocol cX8_hasProtocol 2 (some .boolean) ∈ GW := gw_of (List.mem_of_getElem? (i := 568) (by decide +kernel)) rfl
theorem k_569 : Cond.methodLink "PulseRemote" 102 ⟨"PulseRemote$Table", "protocolAt", "(I)LPulseRemote$Protocol;"⟩ ∈ GW := gw_of (List.mem_of_getElem? (i := 569) (by decide +kernel)) rfl
theorem k_570 : Cond.methodLink "PulseRemote" 112 ⟨"PulseRemote", "lengthsPossible", "(IIIIII)Z"⟩ ∈ GW := gw_of (List.mem_of_getElem? (i := 570) (by decide +kernel)) rfl
theorem k_571 : Cond.static ⟨"PulseRemote", "lengthsPossible", "(IIIIII)Z"⟩ ∈ GW := gw_of (List.mem_of_getElem? (i := 571) (by decide +kernel)) rfl
theorem k_572 : Cond.code yX11_lengthsPossible cX11_lengthsPossible 6 (some .boolean) ∈ GW := gw_of (List.mem_of_getElem? (i := 572) (by decide +kernel)) rfl
theorem k_573 : Cond.methodLink "PulseRemote" 354 ⟨"PulseRemote", "isLength", "(I)Z"⟩ ∈ GW := gw_of (List.mem_of_getElem? (i := 573) (by decide +kernel)) rfl
theorem k_574 : Cond.static ⟨"PulseRemote", "isLength", "(I)Z"⟩ ∈ GW := gw_of (List.mem_of_getElem? (i := 574) (by decide +kernel)) rfl
theorem k_575 : Cond.code yX11_isLength cX11_isLength 1 (some .boolean) ∈ GW := gw_of (List.mem_of_getElem? (i := 575) (by decide +kernel)) rfl
theorem k_576 : Cond.methodLink "PulseRemote" 119 ⟨"PulseRemote$Protocol", "useLengths", "(IIIII)V"⟩ ∈ GW := gw_of (List.mem_of_getElem? (i := 576) (by decide +kernel)) rfl
theorem k_578 : Cond.instanceMethod ⟨"PulseRemote", "protocol", "(II)I"⟩ ∈ GW := gw_of (List.mem_of_getElem? (i := 578) (by decide +kernel)) rfl
theorem k_579 : Cond.selects "PulseRemote" ⟨"PulseRemote", "protocol", "(II)I"⟩ ⟨"PulseRemote", "protocol", "(II)I"⟩ ∈ GW := gw_of (List.mem_of_getElem? (i := 579) (by decide +kernel)) rfl
theorem k_580 : Cond.code yX11_protocol cX11_protocol 4 (some .int) ∈ GW := gw_of (List.mem_of_getElem? (i := 580) (by decide +kernel)) rfl
theorem k_582 : Cond.instanceMethod ⟨"PulseRemote", "count", "(I)I"⟩ ∈ GW := gw_of (List.mem_of_getElem? (i := 582) (by decide +kernel)) rfl
theorem k_583 : Cond.selects "PulseRemote" ⟨"PulseRemote", "count", "(I)I"⟩ ⟨"PulseRemote", "count", "(I)I"⟩ ∈ GW := gw_of (List.mem_of_getElem? (i := 583) (by decide +kernel)) rfl
theorem k_584 : Cond.code yX11_count cX11_count 2 (some .int) ∈ GW := gw_of (List.mem_of_getElem? (i := 584) (by decide +kernel)) rfl
theorem k_586 : Cond.instanceMethod ⟨"PulseRemote", "learn", "(I)I"⟩ ∈ GW := gw_of (List.mem_of_getElem? (i := 586) (by decide +kernel)) rfl
theorem k_587 : Cond.selects "PulseRemote" ⟨"PulseRemote", "learn", "(I)I"⟩ ⟨"PulseRemote", "learn", "(I)I"⟩ ∈ GW := gw_of (List.mem_of_getElem? (i := 587) (by decide +kernel)) rfl
theorem k_588 : Cond.code yX11_learn cX11_learn 3 (some .int) ∈ GW := gw_of (List.mem_of_getElem? (i := 588) (by decide +kernel)) rfl
theorem k_589 : Cond.methodLink "PulseRemote" 156 ⟨"PulseRemote", "isSlot", "(I)Z"⟩ ∈ GW := gw_of (List.mem_of_getElem? (i := 589) (by decide +kernel)) rfl
theorem k_590 : Cond.static ⟨"PulseRemote", "isSlot", "(I)Z"⟩ ∈ GW := gw_of (List.mem_of_getElem? (i := 590) (by decide +kernel)) rfl
theorem k_591 : Cond.code yX11_isSlot cX11_isSlot 1 (some .boolean) ∈ GW := gw_of (List.mem_of_getElem? (i := 591) (by decide +kernel)) rfl
theorem k_592 : Cond.methodLink "PulseRemote" 159 ⟨"PulseRemote$State", "trainAt", "(I)LPulseRemote$Train;"⟩ ∈ GW := gw_of (List.mem_of_getElem? (i := 592) (by decide +kernel)) rfl
theorem k_593 : Cond.instanceMethod ⟨"PulseRemote$State", "trainAt", "(I)LPulseRemote$Train;"⟩ ∈ GW := gw_of (List.mem_of_getElem? (i := 593) (by decide +kernel)) rfl
theorem k_594 : Cond.selects "PulseRemote$State" ⟨"PulseRemote$State", "trainAt", "(I)LPulseRemote$Train;"⟩ ⟨"PulseRemote$State", "trainAt", "(I)LPulseRemote$Train;"⟩ ∈ GW := gw_of (List.mem_of_getElem? (i := 594) (by decide +kernel)) rfl
theorem k_595 : Cond.code yX7_trainAt cX7_trainAt 2 (some (.object "PulseRemote$Train")) ∈ GW := gw_of (List.mem_of_getElem? (i := 595) (by decide +kernel)) rfl
theorem k_596 : Cond.methodLinkNest "PulseRemote$State" 36 ⟨"PulseRemote", "isSlot", "(I)Z"⟩ "PulseRemote" ∈ lw_tbl := List.mem_of_getElem? (i := 596) (by decide +kernel)
theorem k_597 : Cond.methodLink "PulseRemote" 166 ⟨"PulseRemote$FrameList", "split", "(LPulseRemote$Train;I)V"⟩ ∈ GW := gw_of (List.mem_of_getElem? (i := 597) (by decide +kernel)) rfl
theorem k_598 : Cond.instanceMethod ⟨"PulseRemote$FrameList", "split", "(LPulseRemote$Train;I)V"⟩ ∈ GW := gw_of (List.mem_of_getElem? (i := 598) (by decide +kernel)) rfl
theorem k_599 : Cond.selects "PulseRemote$FrameList" ⟨"PulseRemote$FrameList", "split", "(LPulseRemote$Train;I)V"⟩ ⟨"PulseRemote$FrameList", "split", "(LPulseRemote$Train;I)V"⟩ ∈ GW := gw_of (List.mem_of_getElem? (i := 599) (by decide +kernel)) rfl
theorem k_600 : Cond.code yX3_split cX3_split 6 none ∈ GW := gw_of (List.mem_of_getElem? (i := 600) (by decide +kernel)) rfl
theorem k_601 : Cond.methodLink "PulseRemote$FrameList" 25 ⟨"PulseRemote$Train", "copyFrom", "(LPulseRemote$Train;)V"⟩ ∈ GW := gw_of (List.mem_of_getElem? (i := 601) (by decide +kernel)) rfl
theorem k_602 : Cond.methodLink "PulseRemote$FrameList" 36 ⟨"PulseRemote$Train", "endsWithMark", "()Z"⟩ ∈ GW := gw_of (List.mem_of_getElem? (i := 602) (by decide +kernel)) rfl
theorem k_603 : Cond.instanceMethod ⟨"PulseRemote$Train", "endsWithMark", "()Z"⟩ ∈ GW := gw_of (List.mem_of_getElem? (i := 603) (by decide +kernel)) rfl
theorem k_604 : Cond.selects "PulseRemote$Train" ⟨"PulseRemote$Train", "endsWithMark", "()Z"⟩ ⟨"PulseRemote$Train", "endsWithMark", "()Z"⟩ ∈ GW := gw_of (List.mem_of_getElem? (i := 604) (by decide +kernel)) rfl
theorem k_605 : Cond.code yX10_endsWithMark cX10_endsWithMark 1 (some .boolean) ∈ GW := gw_of (List.mem_of_getElem? (i := 605) (by decide +kernel)) rfl
theorem k_606 : Cond.methodLink "PulseRemote$FrameList" 40 ⟨"PulseRemote$Train", "at", "(I)I"⟩ ∈ GW := gw_of (List.mem_of_getElem? (i := 606) (by decide +kernel)) rfl
theorem k_607 : Cond.instanceMethod ⟨"PulseRemote$Train", "at", "(I)I"⟩ ∈ GW := gw_of (List.mem_of_getElem? (i := 607) (by decide +kernel)) rfl
theorem k_608 : Cond.selects "PulseRemote$Train" ⟨"PulseRemote$Train", "at", "(I)I"⟩ ⟨"PulseRemote$Train", "at", "(I)I"⟩ ∈ GW := gw_of (List.mem_of_getElem? (i := 608) (by decide +kernel)) rfl
theorem k_609 : Cond.code yX10_at cX10_at 2 (some .int) ∈ GW := gw_of (List.mem_of_getElem? (i := 609) (by decide +kernel)) rfl
theorem k_610 : Cond.methodLink "PulseRemote$FrameList" 44 ⟨"PulseRemote$FrameList", "note", "(II)V"⟩ ∈ GW := gw_of (List.mem_of_getElem? (i := 610) (by decide +kernel)) rfl
theorem k_612 : Cond.instanceMethod ⟨"PulseRemote$FrameList", "note", "(II)V"⟩ ∈ GW := gw_of (List.mem_of_getElem? (i := 612) (by decide +kernel)) rfl
theorem k_613 : Cond.code yX3_note cX3_note 3 none ∈ GW := gw_of (List.mem_of_getElem? (i := 613) (by decide +kernel)) rfl
theorem k_614 : Cond.methodLink "PulseRemote" 170 ⟨"PulseRemote$Learner", "gather", "(LPulseRemote$FrameList;)Z"⟩ ∈ GW := gw_of (List.mem_of_getElem? (i := 614) (by decide +kernel)) rfl
theorem k_615 : Cond.instanceMethod ⟨"PulseRemote$Learner", "gather", "(LPulseRemote$FrameList;)Z"⟩ ∈ GW := gw_of (List.mem_of_getElem? (i := 615) (by decide +kernel)) rfl
theorem k_616 : Cond.selects "PulseRemote$Learner" ⟨"PulseRemote$Learner", "gather", "(LPulseRemote$FrameList;)Z"⟩ ⟨"PulseRemote$Learner", "gather", "(LPulseRemote$FrameList;)Z"⟩ ∈ GW := gw_of (List.mem_of_getElem? (i := 616) (by decide +kernel)) rfl
theorem k_617 : Cond.code yX4_gather cX4_gather 6 (some .boolean) ∈ GW := gw_of (List.mem_of_getElem? (i := 617) (by decide +kernel)) rfl
theorem k_618 : Cond.methodLink "PulseRemote$Learner" 21 ⟨"PulseRemote$FrameList", "sizeOf", "(I)I"⟩ ∈ GW := gw_of (List.mem_of_getElem? (i := 618) (by decide +kernel)) rfl
theorem k_619 : Cond.instanceMethod ⟨"PulseRemote$FrameList", "sizeOf", "(I)I"⟩ ∈ GW := gw_of (List.mem_of_getElem? (i := 619) (by decide +kernel)) rfl
theorem k_620 : Cond.selects "PulseRemote$FrameList" ⟨"PulseRemote$FrameList", "sizeOf", "(I)I"⟩ ⟨"PulseRemote$FrameList", "sizeOf", "(I)I"⟩ ∈ GW := gw_of (List.mem_of_getElem? (i := 620) (by decide +kernel)) rfl
theorem k_621 : Cond.code yX3_sizeOf cX3_sizeOf 2 (some .int) ∈ GW := gw_of (List.mem_of_getElem? (i := 621) (by decide +kernel)) rfl
theorem k_622 : Cond.methodLink "PulseRemote$Learner" 31 ⟨"PulseRemote$Clusters", "makeEmpty", "()V"⟩ ∈ GW := gw_of (List.mem_of_getElem? (i := 622) (by decide +kernel)) rfl
theorem k_623 : Cond.instanceMethod ⟨"PulseRemote$Clusters", "makeEmpty", "()V"⟩ ∈ GW := gw_of (List.mem_of_getElem? (i := 623) (by decide +kernel)) rfl
theorem k_624 : Cond.selects "PulseRemote$Clusters" ⟨"PulseRemote$Clusters", "makeEmpty", "()V"⟩ ⟨"PulseRemote$Clusters", "makeEmpty", "()V"⟩ ∈ GW := gw_of (List.mem_of_getElem? (i := 624) (by decide +kernel)) rfl
theorem k_625 : Cond.code yX0_makeEmpty cX0_makeEmpty 1 none ∈ GW := gw_of (List.mem_of_getElem? (i := 625) (by decide +kernel)) rfl
theorem k_626 : Cond.methodLink "PulseRemote$Learner" 37 ⟨"PulseRemote$FrameList", "durationAt", "(II)I"⟩ ∈ GW := gw_of (List.mem_of_getElem? (i := 626) (by decide +kernel)) rfl
theorem k_627 : Cond.instanceMethod ⟨"PulseRemote$FrameList", "durationAt", "(II)I"⟩ ∈ GW := gw_of (List.mem_of_getElem? (i := 627) (by decide +kernel)) rfl
theorem k_628 : Cond.selects "PulseRemote$FrameList" ⟨"PulseRemote$FrameList", "durationAt", "(II)I"⟩ ⟨"PulseRemote$FrameList", "durationAt", "(II)I"⟩ ∈ GW := gw_of (List.mem_of_getElem? (i := 628) (by decide +kernel)) rfl
theorem k_629 : Cond.code yX3_durationAt cX3_durationAt 3 (some .int) ∈ GW := gw_of (List.mem_of_getElem? (i := 629) (by decide +kernel)) rfl
theorem k_630 : Cond.methodLink "PulseRemote$FrameList" 48 ⟨"PulseRemote$FrameList", "sizeOf", "(I)I"⟩ ∈ GW := gw_of (List.mem_of_getElem? (i := 630) (by decide +kernel)) rfl
theorem k_631 : Cond.methodLink "PulseRemote$FrameList" 51 ⟨"PulseRemote$FrameList", "startOf", "(I)I"⟩ ∈ GW := gw_of (List.mem_of_getElem? (i := 631) (by decide +kernel)) rfl
theorem k_632 : Cond.instanceMethod ⟨"PulseRemote$FrameList", "startOf", "(I)I"⟩ ∈ GW := gw_of (List.mem_of_getElem? (i := 632) (by decide +kernel)) rfl
theorem k_633 : Cond.selects "PulseRemote$FrameList" ⟨"PulseRemote$FrameList", "startOf", "(I)I"⟩ ⟨"PulseRemote$FrameList", "startOf", "(I)I"⟩ ∈ GW := gw_of (List.mem_of_getElem? (i := 633) (by decide +kernel)) rfl
theorem k_634 : Cond.code yX3_startOf cX3_startOf 2 (some .int) ∈ GW := gw_of (List.mem_of_getElem? (i := 634) (by decide +kernel)) rfl
theorem k_635 : Cond.methodLink "PulseRemote$Learner" 41 ⟨"PulseRemote$Learner", "insertAll", "(LPulseRemote$FrameList;I)V"⟩ ∈ GW := gw_of (List.mem_of_getElem? (i := 635) (by decide +kernel)) rfl
theorem k_637 : Cond.instanceMethod ⟨"PulseRemote$Learner", "insertAll", "(LPulseRemote$FrameList;I)V"⟩ ∈ GW := gw_of (List.mem_of_getElem? (i := 637) (by decide +kernel)) rfl
theorem k_638 : Cond.code yX4_insertAll cX4_insertAll 4 none ∈ GW := gw_of (List.mem_of_getElem? (i := 638) (by decide +kernel)) rfl
theorem k_639 : Cond.methodLink "PulseRemote$Learner" 54 ⟨"PulseRemote$Clusters", "insert", "(I)V"⟩ ∈ GW := gw_of (List.mem_of_getElem? (i := 639) (by decide +kernel)) rfl
theorem k_640 : Cond.instanceMethod ⟨"PulseRemote$Clusters", "insert", "(I)V"⟩ ∈ GW := gw_of (List.mem_of_getElem? (i := 640) (by decide +kernel)) rfl
theorem k_641 : Cond.selects "PulseRemote$Clusters" ⟨"PulseRemote$Clusters", "insert", "(I)V"⟩ ⟨"PulseRemote$Clusters", "insert", "(I)V"⟩ ∈ GW := gw_of (List.mem_of_getElem? (i := 641) (by decide +kernel)) rfl
theorem k_642 : Cond.code yX0_insert cX0_insert 3 none ∈ GW := gw_of (List.mem_of_getElem? (i := 642) (by decide +kernel)) rfl
theorem k_643 : Cond.methodLink "PulseRemote$Learner" 51 ⟨"PulseRemote$Clusters", "cut", "()V"⟩ ∈ GW := gw_of (List.mem_of_getElem? (i := 643) (by decide +kernel)) rfl
theorem k_644 : Cond.instanceMethod ⟨"PulseRemote$Clusters", "cut", "()V"⟩ ∈ GW := gw_of (List.mem_of_getElem? (i := 644) (by decide +kernel)) rfl
theorem k_645 : Cond.selects "PulseRemote$Clusters" ⟨"PulseRemote$Clusters", "cut", "()V"⟩ ⟨"PulseRemote$Clusters", "cut", "()V"⟩ ∈ GW := gw_of (List.mem_of_getElem? (i := 645) (by decide +kernel)) rfl
theorem k_646 : Cond.code yX0_cut cX0_cut 3 none ∈ GW := gw_of (List.mem_of_getElem? (i := 646) (by decide +kernel)) rfl
theorem k_647 : Cond.methodLink "PulseRemote$Clusters" 22 ⟨"PulseRemote$Clusters", "mean", "(II)I"⟩ ∈ GW := gw_of (List.mem_of_getElem? (i := 647) (by decide +kernel)) rfl
theorem k_649 : Cond.instanceMethod ⟨"PulseRemote$Clusters", "mean", "(II)I"⟩ ∈ GW := gw_of (List.mem_of_getElem? (i := 649) (by decide +kernel)) rfl
theorem k_650 : Cond.code yX0_mean cX0_mean 5 (some .int) ∈ GW := gw_of (List.mem_of_getElem? (i := 650) (by decide +kernel)) rfl
theorem k_651 : Cond.methodLink "PulseRemote$Clusters" 36 ⟨"java/lang/Math", "max", "(II)I"⟩ ∈ GW := gw_of (List.mem_of_getElem? (i := 651) (by decide +kernel)) rfl
theorem k_652 : Cond.methodLink "PulseRemote$Clusters" 26 ⟨"PulseRemote$Clusters", "noteCluster", "(I)V"⟩ ∈ GW := gw_of (List.mem_of_getElem? (i := 652) (by decide +kernel)) rfl
theorem k_654 : Cond.instanceMethod ⟨"PulseRemote$Clusters", "noteCluster", "(I)V"⟩ ∈ GW := gw_of (List.mem_of_getElem? (i := 654) (by decide +kernel)) rfl
theorem k_655 : Cond.code yX0_noteCluster cX0_noteCluster 2 none ∈ GW := gw_of (List.mem_of_getElem? (i := 655) (by decide +kernel)) rfl
theorem k_656 : Cond.methodLink "PulseRemote" 174 ⟨"PulseRemote$Learner", "conclude", "()Z"⟩ ∈ GW := gw_of (List.mem_of_getElem? (i := 656) (by decide +kernel)) rfl
theorem k_657 : Cond.instanceMethod ⟨"PulseRemote$Learner", "conclude", "()Z"⟩ ∈ GW := gw_of (List.mem_of_getElem? (i := 657) (by decide +kernel)) rfl
theorem k_658 : Cond.selects "PulseRemote$Learner" ⟨"PulseRemote$Learner", "conclude", "()Z"⟩ ⟨"PulseRemote$Learner", "conclude", "()Z"⟩ ∈ GW := gw_of (List.mem_of_getElem? (i := 658) (by decide +kernel)) rfl
theorem k_659 : Cond.code yX4_conclude cX4_conclude 1 (some .boolean) ∈ GW := gw_of (List.mem_of_getElem? (i := 659) (by decide +kernel)) rfl
theorem k_660 : Cond.methodLink "PulseRemote$Learner" 61 ⟨"PulseRemote$Learner", "makeProtocol", "(IILPulseRemote$Clusters;LPulseRemote$Clusters;)Z"⟩ ∈ GW := gw_of (List.mem_of_getElem? (i := 660) (by decide +kernel)) rfl
theorem k_662 : Cond.instanceMethod ⟨"PulseRemote$Learner", "makeProtocol", "(IILPulseRemote$Clusters;LPulseRemote$Clusters;)Z"⟩ ∈ GW := gw_of (List.mem_of_getElem? (i := 662) (by decide +kernel)) rfl
theorem k_663 : Cond.code yX4_makeProtocol cX4_makeProtocol 5 (some .boolean) ∈ GW := gw_of (List.mem_of_getElem? (i := 663) (by decide +kernel)) rfl
theorem k_664 : Cond.methodLinkNest "PulseRemote$Learner" 86 ⟨"PulseRemote", "lengthsPossible", "(IIIIII)Z"⟩ "PulseRemote" ∈ lw_tbl := List.mem_of_getElem? (i := 664) (by decide +kernel)
theorem k_666 : Cond.instanceMethod ⟨"PulseRemote", "clusters", "(II)I"⟩ ∈ GW := gw_of (List.mem_of_getElem? (i := 666) (by decide +kernel)) rfl
theorem k_667 : Cond.selects "PulseRemote" ⟨"PulseRemote", "clusters", "(II)I"⟩ ⟨"PulseRemote", "clusters", "(II)I"⟩ ∈ GW := gw_of (List.mem_of_getElem? (i := 667) (by decide +kernel)) rfl
theorem k_668 : Cond.code yX11_clusters cX11_clusters 3 (some .int) ∈ GW := gw_of (List.mem_of_getElem? (i := 668) (by decide +kernel)) rfl
theorem k_670 : Cond.instanceMethod ⟨"PulseRemote", "addButton", "(II)I"⟩ ∈ GW := gw_of (List.mem_of_getElem? (i := 670) (by decide +kernel)) rfl
theorem k_671 : Cond.selects "PulseRemote" ⟨"PulseRemote", "addButton", "(II)I"⟩ ⟨"PulseRemote", "addButton", "(II)I"⟩ ∈ GW := gw_of (List.mem_of_getElem? (i := 671) (by decide +kernel)) rfl
theorem k_672 : Cond.code yX11_addButton cX11_addButton 5 (some .int) ∈ GW := gw_of (List.mem_of_getElem? (i := 672) (by decide +kernel)) rfl
theorem k_673 : Cond.methodLink "PulseRemote" 196 ⟨"PulseRemote$Protocol", "hasCode", "(I)Z"⟩ ∈ GW := gw_of (List.mem_of_getElem? (i := 673) (by decide +kernel)) rfl
theorem k_674 : Cond.instanceMethod ⟨"PulseRemote$Protocol", "hasCode", "(I)Z"⟩ ∈ GW := gw_of (List.mem_of_getElem? (i := 674) (by decide +kernel)) rfl
theorem k_675 : Cond.selects "PulseRemote$Protocol" ⟨"PulseRemote$Protocol", "hasCode", "(I)Z"⟩ ⟨"PulseRemote$Protocol", "hasCode", "(I)Z"⟩ ∈ GW := gw_of (List.mem_of_getElem? (i := 675) (by decide +kernel)) rfl
theorem k_676 : Cond.code yX6_hasCode cX6_hasCode 2 (some .boolean) ∈ GW := gw_of (List.mem_of_getElem? (i := 676) (by decide +kernel)) rfl
theorem k_677 : Cond.methodLink "PulseRemote" 199 ⟨"PulseRemote$Protocol", "identityOf", "(I)I"⟩ ∈ GW := gw_of (List.mem_of_getElem? (i := 677) (by decide +kernel)) rfl
theorem k_678 : Cond.instanceMethod ⟨"PulseRemote$Protocol", "identityOf", "(I)I"⟩ ∈ GW := gw_of (List.mem_of_getElem? (i := 678) (by decide +kernel)) rfl
theorem k_679 : Cond.selects "PulseRemote$Protocol" ⟨"PulseRemote$Protocol", "identityOf", "(I)I"⟩ ⟨"PulseRemote$Protocol", "identityOf", "(I)I"⟩ ∈ GW := gw_of (List.mem_of_getElem? (i := 679) (by decide +kernel)) rfl
theorem k_680 : Cond.code yX6_identityOf cX6_identityOf 2 (some .int) ∈ GW := gw_of (List.mem_of_getElem? (i := 680) (by decide +kernel)) rfl
theorem k_681 : Cond.methodLink "PulseRemote$Protocol" 47 ⟨"PulseRemote$Protocol", "maskAt", "(I)I"⟩ ∈ GW := gw_of (List.mem_of_getElem? (i := 681) (by decide +kernel)) rfl
theorem k_682 : Cond.instanceMethod ⟨"PulseRemote$Protocol", "maskAt", "(I)I"⟩ ∈ GW := gw_of (List.mem_of_getElem? (i := 682) (by decide +kernel)) rfl
theorem k_683 : Cond.selects "PulseRemote$Protocol" ⟨"PulseRemote$Protocol", "maskAt", "(I)I"⟩ ⟨"PulseRemote$Protocol", "maskAt", "(I)I"⟩ ∈ GW := gw_of (List.mem_of_getElem? (i := 683) (by decide +kernel)) rfl
theorem k_684 : Cond.code yX6_maskAt cX6_maskAt 2 (some .int) ∈ GW := gw_of (List.mem_of_getElem? (i := 684) (by decide +kernel)) rfl
theorem k_685 : Cond.methodLink "PulseRemote" 203 ⟨"PulseRemote$Table", "findButton", "(II)I"⟩ ∈ GW := gw_of (List.mem_of_getElem? (i := 685) (by decide +kernel)) rfl
theorem k_686 : Cond.instanceMethod ⟨"PulseRemote$Table", "findButton", "(II)I"⟩ ∈ GW := gw_of (List.mem_of_getElem? (i := 686) (by decide +kernel)) rfl
theorem k_687 : Cond.selects "PulseRemote$Table" ⟨"PulseRemote$Table", "findButton", "(II)I"⟩ ⟨"PulseRemote$Table", "findButton", "(II)I"⟩ ∈ GW := gw_of (List.mem_of_getElem? (i := 687) (by decide +kernel)) rfl
theorem k_688 : Cond.code yX8_findButton cX8_findButton 4 (some .int) ∈ GW := gw_of (List.mem_of_getElem? (i := 688) (by decide +kernel)) rfl
theorem k_689 : Cond.methodLink "PulseRemote$Table" 58 ⟨"PulseRemote$Table", "protocolOfButton", "(I)I"⟩ ∈ GW := gw_of (List.mem_of_getElem? (i := 689) (by decide +kernel)) rfl
theorem k_690 : Cond.instanceMethod ⟨"PulseRemote$Table", "protocolOfButton", "(I)I"⟩ ∈ GW := gw_of (List.mem_of_getElem? (i := 690) (by decide +kernel)) rfl
theorem k_691 : Cond.selects "PulseRemote$Table" ⟨"PulseRemote$Table", "protocolOfButton", "(I)I"⟩ ⟨"PulseRemote$Table", "protocolOfButton", "(I)I"⟩ ∈ GW := gw_of (List.mem_of_getElem? (i := 691) (by decide +kernel)) rfl
theorem k_692 : Cond.code yX8_protocolOfButton cX8_protocolOfButton 2 (some .int) ∈ GW := gw_of (List.mem_of_getElem? (i := 692) (by decide +kernel)) rfl
theorem k_693 : Cond.methodLink "PulseRemote$Table" 54 ⟨"PulseRemote$Table", "hasButton", "(I)Z"⟩ ∈ GW := gw_of (List.mem_of_getElem? (i := 693) (by decide +kernel)) rfl
theorem k_694 : Cond.instanceMethod ⟨"PulseRemote$Table", "hasButton", "(I)Z"⟩ ∈ GW := gw_of (List.mem_of_getElem? (i := 694) (by decide +kernel)) rfl
theorem k_695 : Cond.selects "PulseRemote$Table" ⟨"PulseRemote$Table", "hasButton", "(I)Z"⟩ ⟨"PulseRemote$Table", "hasButton", "(I)Z"⟩ ∈ GW := gw_of (List.mem_of_getElem? (i := 695) (by decide +kernel)) rfl
theorem k_696 : Cond.code yX8_hasButton cX8_hasButton 2 (some .boolean) ∈ GW := gw_of (List.mem_of_getElem? (i := 696) (by decide +kernel)) rfl
theorem k_697 : Cond.methodLink "PulseRemote$Table" 62 ⟨"PulseRemote$Table", "identityOfButton", "(I)I"⟩ ∈ GW := gw_of (List.mem_of_getElem? (i := 697) (by decide +kernel)) rfl
theorem k_698 : Cond.instanceMethod ⟨"PulseRemote$Table", "identityOfButton", "(I)I"⟩ ∈ GW := gw_of (List.mem_of_getElem? (i := 698) (by decide +kernel)) rfl
theorem k_699 : Cond.selects "PulseRemote$Table" ⟨"PulseRemote$Table", "identityOfButton", "(I)I"⟩ ⟨"PulseRemote$Table", "identityOfButton", "(I)I"⟩ ∈ GW := gw_of (List.mem_of_getElem? (i := 699) (by decide +kernel)) rfl
theorem k_700 : Cond.code yX8_identityOfButton cX8_identityOfButton 2 (some .int) ∈ GW := gw_of (List.mem_of_getElem? (i := 700) (by decide +kernel)) rfl
theorem k_701 : Cond.methodLink "PulseRemote" 207 ⟨"PulseRemote$Table", "buttonsFull", "()Z"⟩ ∈ GW := gw_of (List.mem_of_getElem? (i := 701) (by decide +kernel)) rfl
theorem k_702 : Cond.instanceMethod ⟨"PulseRemote$Table", "buttonsFull", "()Z"⟩ ∈ GW := gw_of (List.mem_of_getElem? (i := 702) (by decide +kernel)) rfl
theorem k_703 : Cond.selects "PulseRemote$Table" ⟨"PulseRemote$Table", "buttonsFull", "()Z"⟩ ⟨"PulseRemote$Table", "buttonsFull", "()Z"⟩ ∈ GW := gw_of (List.mem_of_getElem? (i := 703) (by decide +kernel)) rfl
theorem k_704 : Cond.code yX8_buttonsFull cX8_buttonsFull 1 (some .boolean) ∈ GW := gw_of (List.mem_of_getElem? (i := 704) (by decide +kernel)) rfl
theorem k_705 : Cond.methodLink "PulseRemote" 210 ⟨"PulseRemote$Table", "newButton", "(II)I"⟩ ∈ GW := gw_of (List.mem_of_getElem? (i := 705) (by decide +kernel)) rfl
theorem k_706 : Cond.instanceMethod ⟨"PulseRemote$Table", "newButton", "(II)I"⟩ ∈ GW := gw_of (List.mem_of_getElem? (i := 706) (by decide +kernel)) rfl
theorem k_707 : Cond.selects "PulseRemote$Table" ⟨"PulseRemote$Table", "newButton", "(II)I"⟩ ⟨"PulseRemote$Table", "newButton", "(II)I"⟩ ∈ GW := gw_of (List.mem_of_getElem? (i := 707) (by decide +kernel)) rfl
theorem k_708 : Cond.code yX8_newButton cX8_newButton 3 (some .int) ∈ GW := gw_of (List.mem_of_getElem? (i := 708) (by decide +kernel)) rfl
theorem k_710 : Cond.instanceMethod ⟨"PulseRemote", "button", "(II)I"⟩ ∈ GW := gw_of (List.mem_of_getElem? (i := 710) (by decide +kernel)) rfl
theorem k_711 : Cond.selects "PulseRemote" ⟨"PulseRemote", "button", "(II)I"⟩ ⟨"PulseRemote", "button", "(II)I"⟩ ∈ GW := gw_of (List.mem_of_getElem? (i := 711) (by decide +kernel)) rfl
theorem k_712 : Cond.code yX11_button cX11_button 3 (some .int) ∈ GW := gw_of (List.mem_of_getElem? (i := 712) (by decide +kernel)) rfl
theorem k_713 : Cond.methodLink "PulseRemote" 213 ⟨"PulseRemote$Table", "hasButton", "(I)Z"⟩ ∈ GW := gw_of (List.mem_of_getElem? (i := 713) (by decide +kernel)) rfl
theorem k_714 : Cond.methodLink "PulseRemote" 216 ⟨"PulseRemote$Table", "protocolOfButton", "(I)I"⟩ ∈ GW := gw_of (List.mem_of_getElem? (i := 714) (by decide +kernel)) rfl
theorem k_715 : Cond.methodLink "PulseRemote" 219 ⟨"PulseRemote$Table", "identityOfButton", "(I)I"⟩ ∈ GW := gw_of (List.mem_of_getElem? (i := 715) (by decide +kernel)) rfl
theorem k_717 : Cond.instanceMethod ⟨"PulseRemote", "setGap", "(I)I"⟩ ∈ GW := gw_of (List.mem_of_getElem? (i := 717) (by decide +kernel)) rfl
theorem k_718 : Cond.selects "PulseRemote" ⟨"PulseRemote", "setGap", "(I)I"⟩ ⟨"PulseRemote", "setGap", "(I)I"⟩ ∈ GW := gw_of (List.mem_of_getElem? (i := 718) (by decide +kernel)) rfl
theorem k_719 : Cond.code yX11_setGap cX11_setGap 3 (some .int) ∈ GW := gw_of (List.mem_of_getElem? (i := 719) (by decide +kernel)) rfl
theorem k_720 : Cond.constant "PulseRemote" 222 (60000 : Int32) ∈ GW := gw_of (List.mem_of_getElem? (i := 720) (by decide +kernel)) rfl
theorem k_722 : Cond.instanceMethod ⟨"PulseRemote", "setHold", "(I)I"⟩ ∈ GW := gw_of (List.mem_of_getElem? (i := 722) (by decide +kernel)) rfl
theorem k_723 : Cond.selects "PulseRemote" ⟨"PulseRemote", "setHold", "(I)I"⟩ ⟨"PulseRemote", "setHold", "(I)I"⟩ ∈ GW := gw_of (List.mem_of_getElem? (i := 723) (by decide +kernel)) rfl
theorem k_724 : Cond.code yX11_setHold cX11_setHold 3 (some .int) ∈ GW := gw_of (List.mem_of_getElem? (i := 724) (by decide +kernel)) rfl
theorem k_726 : Cond.instanceMethod ⟨"PulseRemote", "setTolerance", "(I)I"⟩ ∈ GW := gw_of (List.mem_of_getElem? (i := 726) (by decide +kernel)) rfl
theorem k_727 : Cond.selects "PulseRemote" ⟨"PulseRemote", "setTolerance", "(I)I"⟩ ⟨"PulseRemote", "setTolerance", "(I)I"⟩ ∈ GW := gw_of (List.mem_of_getElem? (i := 727) (by decide +kernel)) rfl
theorem k_728 : Cond.code yX11_setTolerance cX11_setTolerance 3 (some .int) ∈ GW := gw_of (List.mem_of_getElem? (i := 728) (by decide +kernel)) rfl
theorem k_730 : Cond.instanceMethod ⟨"PulseRemote", "appendCharacter", "(I)I"⟩ ∈ GW := gw_of (List.mem_of_getElem? (i := 730) (by decide +kernel)) rfl
theorem k_731 : Cond.selects "PulseRemote" ⟨"PulseRemote", "appendCharacter", "(I)I"⟩ ⟨"PulseRemote", "appendCharacter", "(I)I"⟩ ∈ GW := gw_of (List.mem_of_getElem? (i := 731) (by decide +kernel)) rfl
theorem k_732 : Cond.code yX11_appendCharacter cX11_appendCharacter 2 (some .int) ∈ GW := gw_of (List.mem_of_getElem? (i := 732) (by decide +kernel)) rfl
theorem k_733 : Cond.methodLink "PulseRemote" 229 ⟨"PulseRemote$Text", "put", "(C)V"⟩ ∈ GW := gw_of (List.mem_of_getElem? (i := 733) (by decide +kernel)) rfl
theorem k_734 : Cond.instanceMethod ⟨"PulseRemote$Text", "put", "(C)V"⟩ ∈ GW := gw_of (List.mem_of_getElem? (i := 734) (by decide +kernel)) rfl
theorem k_735 : Cond.selects "PulseRemote$Text" ⟨"PulseRemote$Text", "put", "(C)V"⟩ ⟨"PulseRemote$Text", "put", "(C)V"⟩ ∈ GW := gw_of (List.mem_of_getElem? (i := 735) (by decide +kernel)) rfl
theorem k_736 : Cond.code yX9_put cX9_put 2 none ∈ GW := gw_of (List.mem_of_getElem? (i := 736) (by decide +kernel)) rfl
theorem k_738 : Cond.instanceMethod ⟨"PulseRemote", "clearText", "()I"⟩ ∈ GW := gw_of (List.mem_of_getElem? (i := 738) (by decide +kernel)) rfl
theorem k_739 : Cond.selects "PulseRemote" ⟨"PulseRemote", "clearText", "()I"⟩ ⟨"PulseRemote", "clearText", "()I"⟩ ∈ GW := gw_of (List.mem_of_getElem? (i := 739) (by decide +kernel)) rfl
theorem k_740 : Cond.code yX11_clearText cX11_clearText 2 (some .int) ∈ GW := gw_of (List.mem_of_getElem? (i := 740) (by decide +kernel)) rfl
theorem k_742 : Cond.instanceMethod ⟨"PulseRemote", "load", "()I"⟩ ∈ GW := gw_of (List.mem_of_getElem? (i := 742) (by decide +kernel)) rfl
theorem k_743 : Cond.selects "PulseRemote" ⟨"PulseRemote", "load", "()I"⟩ ⟨"PulseRemote", "load", "()I"⟩ ∈ GW := gw_of (List.mem_of_getElem? (i := 743) (by decide +kernel)) rfl
theorem k_744 : Cond.code yX11_load cX11_load 2 (some .int) ∈ GW := gw_of (List.mem_of_getElem? (i := 744) (by decide +kernel)) rfl
theorem k_745 : Cond.methodLink "PulseRemote" 233 ⟨"PulseRemote$Text", "readTable", "(LPulseRemote$Table;)I"⟩ ∈ GW := gw_of (List.mem_of_getElem? (i := 745) (by decide +kernel)) rfl
theorem k_746 : Cond.instanceMethod ⟨"PulseRemote$Text", "readTable", "(LPulseRemote$Table;)I"⟩ ∈ GW := gw_of (List.mem_of_getElem? (i := 746) (by decide +kernel)) rfl
theorem k_747 : Cond.selects "PulseRemote$Text" ⟨"PulseRemote$Text", "readTable", "(LPulseRemote$Table;)I"⟩ ⟨"PulseRemote$Text", "readTable", "(LPulseRemote$Table;)I"⟩ ∈ GW := gw_of (List.mem_of_getElem? (i := 747) (by decide +kernel)) rfl
theorem k_748 : Cond.code yX9_readTable cX9_readTable 3 (some .int) ∈ GW := gw_of (List.mem_of_getElem? (i := 748) (by decide +kernel)) rfl
theorem k_749 : Cond.methodLink "PulseRemote$Text" 22 ⟨"PulseRemote$Table", "makeEmpty", "()V"⟩ ∈ GW := gw_of (List.mem_of_getElem? (i := 749) (by decide +kernel)) rfl
theorem k_750 : Cond.instanceMethod ⟨"PulseRemote$Table", "makeEmpty", "()V"⟩ ∈ GW := gw_of (List.mem_of_getElem? (i := 750) (by decide +kernel)) rfl
theorem k_751 : Cond.selects "PulseRemote$Table" ⟨"PulseRemote$Table", "makeEmpty", "()V"⟩ ⟨"PulseRemote$Table", "makeEmpty", "()V"⟩ ∈ GW := gw_of (List.mem_of_getElem? (i := 751) (by decide +kernel)) rfl
theorem k_752 : Cond.code yX8_makeEmpty cX8_makeEmpty 1 none ∈ GW := gw_of (List.mem_of_getElem? (i := 752) (by decide +kernel)) rfl
theorem k_753 : Cond.methodLink "PulseRemote$Text" 27 ⟨"PulseRemote$Text", "takeToken", "()V"⟩ ∈ GW := gw_of (List.mem_of_getElem? (i := 753) (by decide +kernel)) rfl
theorem k_755 : Cond.instanceMethod ⟨"PulseRemote$Text", "takeToken", "()V"⟩ ∈ GW := gw_of (List.mem_of_getElem? (i := 755) (by decide +kernel)) rfl
theorem k_756 : Cond.code yX9_takeToken cX9_takeToken 1 none ∈ GW := gw_of (List.mem_of_getElem? (i := 756) (by decide +kernel)) rfl
theorem k_757 : Cond.methodLink "PulseRemote$Text" 102 ⟨"PulseRemote$Text", "at", "(I)C"⟩ ∈ GW := gw_of (List.mem_of_getElem? (i := 757) (by decide +kernel)) rfl
theorem k_759 : Cond.instanceMethod ⟨"PulseRemote$Text", "at", "(I)C"⟩ ∈ GW := gw_of (List.mem_of_getElem? (i := 759) (by decide +kernel)) rfl
theorem k_760 : Cond.code yX9_at cX9_at 2 (some .char) ∈ GW := gw_of (List.mem_of_getElem? (i := 760) (by decide +kernel)) rfl
theorem k_761 : Cond.methodLink "PulseRemote$Text" 119 ⟨"PulseRemote$Text", "kindAt", "(I)I"⟩ ∈ GW := gw_of (List.mem_of_getElem? (i := 761) (by decide +kernel)) rfl
theorem k_763 : Cond.instanceMethod ⟨"PulseRemote$Text", "kindAt", "(I)I"⟩ ∈ GW := gw_of (List.mem_of_getElem? (i := 763) (by decide +kernel)) rfl
theorem k_764 : Cond.code yX9_kindAt cX9_kindAt 3 (some .int) ∈ GW := gw_of (List.mem_of_getElem? (i := 764) (by decide +kernel)) rfl
theorem k_765 : Cond.methodLink "PulseRemote$Text" 33 ⟨"PulseRemote$Text", "readItem", "(LPulseRemote$Table;)Z"⟩ ∈ GW := gw_of (List.mem_of_getElem? (i := 765) (by decide +kernel)) rfl
theorem k_767 : Cond.instanceMethod ⟨"PulseRemote$Text", "readItem", "(LPulseRemote$Table;)Z"⟩ ∈ GW := gw_of (List.mem_of_getElem? (i := 767) (by decide +kernel)) rfl
theorem k_768 : Cond.code yX9_readItem cX9_readItem 2 (some .boolean) ∈ GW := gw_of (List.mem_of_getElem? (i := 768) (by decide +kernel)) rfl
theorem k_772 : Cond.instanceMethod ⟨"PulseRemote$Text", "isWord", "(Ljava/lang/String;)Z"⟩ ∈ GW := gw_of (List.mem_of_getElem? (i := 772) (by decide +kernel)) rfl
theorem k_773 : Cond.code yX9_isWord cX9_isWord 3 (some .boolean) ∈ GW := gw_of (List.mem_of_getElem? (i := 773) (by decide +kernel)) rfl
theorem k_825 : Cond.instanceMethod ⟨"PulseRemote$Text", "readProtocol", "(LPulseRemote$Table;)Z"⟩ ∈ GW := gw_of (List.mem_of_getElem? (i := 825) (by decide +kernel)) rfl
theorem k_826 : Cond.code yX9_readProtocol cX9_readProtocol 14 (some .boolean) ∈ GW := gw_of (List.mem_of_getElem? (i := 826) (by decide +kernel)) rfl
theorem k_827 : Cond.methodLink "PulseRemote$Text" 58 ⟨"PulseRemote$Text", "readNumber", "(II)I"⟩ ∈ GW := gw_of (List.mem_of_getElem? (i := 827) (by decide +kernel)) rfl
theorem k_829 : Cond.instanceMethod ⟨"PulseRemote$Text", "readNumber", "(II)I"⟩ ∈ GW := gw_of (List.mem_of_getElem? (i := 829) (by decide +kernel)) rfl
theorem k_830 : Cond.code yX9_readNumber cX9_readNumber 6 (some .int) ∈ GW := gw_of (List.mem_of_getElem? (i := 830) (by decide +kernel)) rfl
theorem k_831 : Cond.methodLinkNest "PulseRemote$Text" 106 ⟨"PulseRemote", "inRange", "(III)Z"⟩ "PulseRemote" ∈ lw_tbl := List.mem_of_getElem? (i := 831) (by decide +kernel)
theorem k_832 : Cond.methodLinkNest "PulseRemote$Text" 62 ⟨"PulseRemote", "lengthsPossible", "(IIIIII)Z"⟩ "PulseRemote" ∈ lw_tbl := List.mem_of_getElem? (i := 832) (by decide +kernel)
theorem k_833 : Cond.methodLink "PulseRemote$Text" 66 ⟨"PulseRemote$Text", "readEnd", "()Z"⟩ ∈ GW := gw_of (List.mem_of_getElem? (i := 833) (by decide +kernel)) rfl
theorem k_835 : Cond.instanceMethod ⟨"PulseRemote$Text", "readEnd", "()Z"⟩ ∈ GW := gw_of (List.mem_of_getElem? (i := 835) (by decide +kernel)) rfl
theorem k_836 : Cond.code yX9_readEnd cX9_readEnd 1 (some .boolean) ∈ GW := gw_of (List.mem_of_getElem? (i := 836) (by decide +kernel)) rfl
theorem k_837 : Cond.methodLink "PulseRemote$Text" 69 ⟨"PulseRemote$Table", "newProtocol", "(IIII)I"⟩ ∈ GW := gw_of (List.mem_of_getElem? (i := 837) (by decide +kernel)) rfl
theorem k_838 : Cond.methodLink "PulseRemote$Text" 73 ⟨"PulseRemote$Table", "protocolAt", "(I)LPulseRemote$Protocol;"⟩ ∈ GW := gw_of (List.mem_of_getElem? (i := 838) (by decide +kernel)) rfl
theorem k_839 : Cond.methodLink "PulseRemote$Text" 77 ⟨"PulseRemote$Protocol", "useLengths", "(IIIII)V"⟩ ∈ GW := gw_of (List.mem_of_getElem? (i := 839) (by decide +kernel)) rfl
theorem k_844 : Cond.instanceMethod ⟨"PulseRemote$Text", "readButton", "(LPulseRemote$Table;)Z"⟩ ∈ GW := gw_of (List.mem_of_getElem? (i := 844) (by decide +kernel)) rfl
theorem k_845 : Cond.code yX9_readButton cX9_readButton 6 (some .boolean) ∈ GW := gw_of (List.mem_of_getElem? (i := 845) (by decide +kernel)) rfl
theorem k_846 : Cond.methodLink "PulseRemote$Text" 89 ⟨"PulseRemote$Protocol", "identityOf", "(I)I"⟩ ∈ GW := gw_of (List.mem_of_getElem? (i := 846) (by decide +kernel)) rfl
theorem k_847 : Cond.methodLink "PulseRemote$Text" 93 ⟨"PulseRemote$Table", "findButton", "(II)I"⟩ ∈ GW := gw_of (List.mem_of_getElem? (i := 847) (by decide +kernel)) rfl
theorem k_848 : Cond.methodLink "PulseRemote$Text" 96 ⟨"PulseRemote$Table", "newButton", "(II)I"⟩ ∈ GW := gw_of (List.mem_of_getElem? (i := 848) (by decide +kernel)) rfl
theorem k_849 : Cond.methodLink "PulseRemote" 240 ⟨"PulseRemote$Table", "copyFrom", "(LPulseRemote$Table;)V"⟩ ∈ GW := gw_of (List.mem_of_getElem? (i := 849) (by decide +kernel)) rfl
theorem k_852 : Cond.instanceMethod ⟨"PulseRemote", "append", "(II)I"⟩ ∈ GW := gw_of (List.mem_of_getElem? (i := 852) (by decide +kernel)) rfl
theorem k_853 : Cond.selects "PulseRemote" ⟨"PulseRemote", "append", "(II)I"⟩ ⟨"PulseRemote", "append", "(II)I"⟩ ∈ GW := gw_of (List.mem_of_getElem? (i := 853) (by decide +kernel)) rfl
theorem k_854 : Cond.code yX11_append cX11_append 4 (some .int) ∈ GW := gw_of (List.mem_of_getElem? (i := 854) (by decide +kernel)) rfl
theorem k_855 : Cond.methodLink "PulseRemote" 245 ⟨"PulseRemote$Train", "put", "(I)V"⟩ ∈ GW := gw_of (List.mem_of_getElem? (i := 855) (by decide +kernel)) rfl
theorem k_856 : Cond.instanceMethod ⟨"PulseRemote$Train", "put", "(I)V"⟩ ∈ GW := gw_of (List.mem_of_getElem? (i := 856) (by decide +kernel)) rfl
theorem k_857 : Cond.selects "PulseRemote$Train" ⟨"PulseRemote$Train", "put", "(I)V"⟩ ⟨"PulseRemote$Train", "put", "(I)V"⟩ ∈ GW := gw_of (List.mem_of_getElem? (i := 857) (by decide +kernel)) rfl
theorem k_858 : Cond.code yX10_put cX10_put 2 none ∈ GW := gw_of (List.mem_of_getElem? (i := 858) (by decide +kernel)) rfl
theorem k_860 : Cond.instanceMethod ⟨"PulseRemote", "send", "(IIII)I"⟩ ∈ GW := gw_of (List.mem_of_getElem? (i := 860) (by decide +kernel)) rfl
theorem k_861 : Cond.selects "PulseRemote" ⟨"PulseRemote", "send", "(IIII)I"⟩ ⟨"PulseRemote", "send", "(IIII)I"⟩ ∈ GW := gw_of (List.mem_of_getElem? (i := 861) (by decide +kernel)) rfl
theorem k_862 : Cond.code yX11_send cX11_send 5 (some .int) ∈ GW := gw_of (List.mem_of_getElem? (i := 862) (by decide +kernel)) rfl
theorem k_863 : Cond.methodLink "PulseRemote" 248 ⟨"PulseRemote$Protocol", "writeFrame", "(ILPulseRemote$Train;)V"⟩ ∈ GW := gw_of (List.mem_of_getElem? (i := 863) (by decide +kernel)) rfl
theorem k_864 : Cond.instanceMethod ⟨"PulseRemote$Protocol", "writeFrame", "(ILPulseRemote$Train;)V"⟩ ∈ GW := gw_of (List.mem_of_getElem? (i := 864) (by decide +kernel)) rfl
theorem k_865 : Cond.selects "PulseRemote$Protocol" ⟨"PulseRemote$Protocol", "writeFrame", "(ILPulseRemote$Train;)V"⟩ ⟨"PulseRemote$Protocol", "writeFrame", "(ILPulseRemote$Train;)V"⟩ ∈ GW := gw_of (List.mem_of_getElem? (i := 865) (by decide +kernel)) rfl
theorem k_866 : Cond.code yX6_writeFrame cX6_writeFrame 4 none ∈ GW := gw_of (List.mem_of_getElem? (i := 866) (by decide +kernel)) rfl
theorem k_867 : Cond.methodLink "PulseRemote$Protocol" 56 ⟨"PulseRemote$Train", "put", "(I)V"⟩ ∈ GW := gw_of (List.mem_of_getElem? (i := 867) (by decide +kernel)) rfl
theorem k_868 : Cond.methodLink "PulseRemote$Protocol" 60 ⟨"PulseRemote$Protocol", "writeBit", "(ZILPulseRemote$Train;)V"⟩ ∈ GW := gw_of (List.mem_of_getElem? (i := 868) (by decide +kernel)) rfl
theorem k_870 : Cond.instanceMethod ⟨"PulseRemote$Protocol", "writeBit", "(ZILPulseRemote$Train;)V"⟩ ∈ GW := gw_of (List.mem_of_getElem? (i := 870) (by decide +kernel)) rfl
theorem k_871 : Cond.code yX6_writeBit cX6_writeBit 4 none ∈ GW := gw_of (List.mem_of_getElem? (i := 871) (by decide +kernel)) rfl
theorem k_872 : Cond.methodLink "PulseRemote$Protocol" 68 ⟨"PulseRemote$Train", "join", "(ZI)V"⟩ ∈ GW := gw_of (List.mem_of_getElem? (i := 872) (by decide +kernel)) rfl
theorem k_873 : Cond.instanceMethod ⟨"PulseRemote$Train", "join", "(ZI)V"⟩ ∈ GW := gw_of (List.mem_of_getElem? (i := 873) (by decide +kernel)) rfl
theorem k_874 : Cond.selects "PulseRemote$Train" ⟨"PulseRemote$Train", "join", "(ZI)V"⟩ ⟨"PulseRemote$Train", "join", "(ZI)V"⟩ ∈ GW := gw_of (List.mem_of_getElem? (i := 874) (by decide +kernel)) rfl
theorem k_875 : Cond.code yX10_join cX10_join 3 none ∈ GW := gw_of (List.mem_of_getElem? (i := 875) (by decide +kernel)) rfl
theorem k_876 : Cond.methodLink "PulseRemote$Train" 19 ⟨"PulseRemote$Train", "endsWithMark", "()Z"⟩ ∈ GW := gw_of (List.mem_of_getElem? (i := 876) (by decide +kernel)) rfl
theorem k_877 : Cond.methodLink "PulseRemote$Train" 23 ⟨"PulseRemote$Train", "put", "(I)V"⟩ ∈ GW := gw_of (List.mem_of_getElem? (i := 877) (by decide +kernel)) rfl
theorem k_878 : Cond.methodLink "PulseRemote$Protocol" 64 ⟨"PulseRemote$Train", "endsWithMark", "()Z"⟩ ∈ GW := gw_of (List.mem_of_getElem? (i := 878) (by decide +kernel)) rfl
theorem k_879 : Cond.methodLink "PulseRemote" 252 ⟨"PulseRemote", "appendScratch", "(LPulseRemote$Train;I)I"⟩ ∈ GW := gw_of (List.mem_of_getElem? (i := 879) (by decide +kernel)) rfl
theorem k_881 : Cond.instanceMethod ⟨"PulseRemote", "appendScratch", "(LPulseRemote$Train;I)I"⟩ ∈ GW := gw_of (List.mem_of_getElem? (i := 881) (by decide +kernel)) rfl
theorem k_882 : Cond.code yX11_appendScratch cX11_appendScratch 5 (some .int) ∈ GW := gw_of (List.mem_of_getElem? (i := 882) (by decide +kernel)) rfl
theorem k_883 : Cond.methodLink "PulseRemote" 260 ⟨"PulseRemote$Train", "endsWithMark", "()Z"⟩ ∈ GW := gw_of (List.mem_of_getElem? (i := 883) (by decide +kernel)) rfl
theorem k_884 : Cond.methodLink "PulseRemote" 283 ⟨"PulseRemote$Train", "at", "(I)I"⟩ ∈ GW := gw_of (List.mem_of_getElem? (i := 884) (by decide +kernel)) rfl
theorem k_886 : Cond.instanceMethod ⟨"PulseRemote", "sendShort", "(III)I"⟩ ∈ GW := gw_of (List.mem_of_getElem? (i := 886) (by decide +kernel)) rfl
theorem k_887 : Cond.selects "PulseRemote" ⟨"PulseRemote", "sendShort", "(III)I"⟩ ⟨"PulseRemote", "sendShort", "(III)I"⟩ ∈ GW := gw_of (List.mem_of_getElem? (i := 887) (by decide +kernel)) rfl
theorem k_888 : Cond.code yX11_sendShort cX11_sendShort 4 (some .int) ∈ GW := gw_of (List.mem_of_getElem? (i := 888) (by decide +kernel)) rfl
theorem k_889 : Cond.methodLink "PulseRemote" 256 ⟨"PulseRemote$Protocol", "writeShortFrame", "(LPulseRemote$Train;)V"⟩ ∈ GW := gw_of (List.mem_of_getElem? (i := 889) (by decide +kernel)) rfl
theorem k_890 : Cond.instanceMethod ⟨"PulseRemote$Protocol", "writeShortFrame", "(LPulseRemote$Train;)V"⟩ ∈ GW := gw_of (List.mem_of_getElem? (i := 890) (by decide +kernel)) rfl
theorem k_891 : Cond.selects "PulseRemote$Protocol" ⟨"PulseRemote$Protocol", "writeShortFrame", "(LPulseRemote$Train;)V"⟩ ⟨"PulseRemote$Protocol", "writeShortFrame", "(LPulseRemote$Train;)V"⟩ ∈ GW := gw_of (List.mem_of_getElem? (i := 891) (by decide +kernel)) rfl
theorem k_892 : Cond.code yX6_writeShortFrame cX6_writeShortFrame 2 none ∈ GW := gw_of (List.mem_of_getElem? (i := 892) (by decide +kernel)) rfl
theorem k_894 : Cond.instanceMethod ⟨"PulseRemote", "clear", "(I)I"⟩ ∈ GW := gw_of (List.mem_of_getElem? (i := 894) (by decide +kernel)) rfl
theorem k_895 : Cond.selects "PulseRemote" ⟨"PulseRemote", "clear", "(I)I"⟩ ⟨"PulseRemote", "clear", "(I)I"⟩ ∈ GW := gw_of (List.mem_of_getElem? (i := 895) (by decide +kernel)) rfl
theorem k_896 : Cond.code yX11_clear cX11_clear 4 (some .int) ∈ GW := gw_of (List.mem_of_getElem? (i := 896) (by decide +kernel)) rfl
theorem k_898 : Cond.instanceMethod ⟨"PulseRemote", "overlay", "(III)I"⟩ ∈ GW := gw_of (List.mem_of_getElem? (i := 898) (by decide +kernel)) rfl
theorem k_899 : Cond.selects "PulseRemote" ⟨"PulseRemote", "overlay", "(III)I"⟩ ⟨"PulseRemote", "overlay", "(III)I"⟩ ∈ GW := gw_of (List.mem_of_getElem? (i := 899) (by decide +kernel)) rfl
theorem k_900 : Cond.code yX11_overlay cX11_overlay 6 (some .int) ∈ GW := gw_of (List.mem_of_getElem? (i := 900) (by decide +kernel)) rfl
theorem k_901 : Cond.methodLink "PulseRemote" 263 ⟨"PulseRemote$Collision", "lay", "(LPulseRemote$Train;LPulseRemote$Train;)V"⟩ ∈ GW := gw_of (List.mem_of_getElem? (i := 901) (by decide +kernel)) rfl
theorem k_902 : Cond.instanceMethod ⟨"PulseRemote$Collision", "lay", "(LPulseRemote$Train;LPulseRemote$Train;)V"⟩ ∈ GW := gw_of (List.mem_of_getElem? (i := 902) (by decide +kernel)) rfl
theorem k_903 : Cond.selects "PulseRemote$Collision" ⟨"PulseRemote$Collision", "lay", "(LPulseRemote$Train;LPulseRemote$Train;)V"⟩ ⟨"PulseRemote$Collision", "lay", "(LPulseRemote$Train;LPulseRemote$Train;)V"⟩ ∈ GW := gw_of (List.mem_of_getElem? (i := 903) (by decide +kernel)) rfl
theorem k_904 : Cond.code yX1_lay cX1_lay 3 none ∈ GW := gw_of (List.mem_of_getElem? (i := 904) (by decide +kernel)) rfl
theorem k_905 : Cond.methodLink "PulseRemote$Collision" 21 ⟨"PulseRemote$Train", "copyFrom", "(LPulseRemote$Train;)V"⟩ ∈ GW := gw_of (List.mem_of_getElem? (i := 905) (by decide +kernel)) rfl
theorem k_906 : Cond.methodLink "PulseRemote" 267 ⟨"PulseRemote$Collision", "begin", "(I)V"⟩ ∈ GW := gw_of (List.mem_of_getElem? (i := 906) (by decide +kernel)) rfl
theorem k_907 : Cond.instanceMethod ⟨"PulseRemote$Collision", "begin", "(I)V"⟩ ∈ GW := gw_of (List.mem_of_getElem? (i := 907) (by decide +kernel)) rfl
theorem k_908 : Cond.selects "PulseRemote$Collision" ⟨"PulseRemote$Collision", "begin", "(I)V"⟩ ⟨"PulseRemote$Collision", "begin", "(I)V"⟩ ∈ GW := gw_of (List.mem_of_getElem? (i := 908) (by decide +kernel)) rfl
theorem k_909 : Cond.code yX1_begin cX1_begin 2 none ∈ GW := gw_of (List.mem_of_getElem? (i := 909) (by decide +kernel)) rfl
theorem k_910 : Cond.methodLink "PulseRemote$Collision" 41 ⟨"PulseRemote$Collision", "takeMark", "()V"⟩ ∈ GW := gw_of (List.mem_of_getElem? (i := 910) (by decide +kernel)) rfl
theorem k_912 : Cond.instanceMethod ⟨"PulseRemote$Collision", "takeMark", "()V"⟩ ∈ GW := gw_of (List.mem_of_getElem? (i := 912) (by decide +kernel)) rfl
theorem k_913 : Cond.code yX1_takeMark cX1_takeMark 3 none ∈ GW := gw_of (List.mem_of_getElem? (i := 913) (by decide +kernel)) rfl
theorem k_914 : Cond.methodLink "PulseRemote$Collision" 54 ⟨"PulseRemote$Train", "at", "(I)I"⟩ ∈ GW := gw_of (List.mem_of_getElem? (i := 914) (by decide +kernel)) rfl
theorem k_915 : Cond.methodLink "PulseRemote" 270 ⟨"PulseRemote$Collision", "writeTo", "(LPulseRemote$Train;)Z"⟩ ∈ GW := gw_of (List.mem_of_getElem? (i := 915) (by decide +kernel)) rfl
theorem k_916 : Cond.instanceMethod ⟨"PulseRemote$Collision", "writeTo", "(LPulseRemote$Train;)Z"⟩ ∈ GW := gw_of (List.mem_of_getElem? (i := 916) (by decide +kernel)) rfl
theorem k_917 : Cond.selects "PulseRemote$Collision" ⟨"PulseRemote$Collision", "writeTo", "(LPulseRemote$Train;)Z"⟩ ⟨"PulseRemote$Collision", "writeTo", "(LPulseRemote$Train;)Z"⟩ ∈ GW := gw_of (List.mem_of_getElem? (i := 917) (by decide +kernel)) rfl
theorem k_918 : Cond.code yX1_writeTo cX1_writeTo 4 (some .boolean) ∈ GW := gw_of (List.mem_of_getElem? (i := 918) (by decide +kernel)) rfl
theorem k_919 : Cond.methodLink "PulseRemote$Collision" 67 ⟨"PulseRemote$Collision", "nextDuration", "()I"⟩ ∈ GW := gw_of (List.mem_of_getElem? (i := 919) (by decide +kernel)) rfl
theorem k_920 : Cond.instanceMethod ⟨"PulseRemote$Collision", "nextDuration", "()I"⟩ ∈ GW := gw_of (List.mem_of_getElem? (i := 920) (by decide +kernel)) rfl
theorem k_921 : Cond.selects "PulseRemote$Collision" ⟨"PulseRemote$Collision", "nextDuration", "()I"⟩ ⟨"PulseRemote$Collision", "nextDuration", "()I"⟩ ∈ GW := gw_of (List.mem_of_getElem? (i := 921) (by decide +kernel)) rfl
theorem k_922 : Cond.code yX1_nextDuration cX1_nextDuration 4 (some .int) ∈ GW := gw_of (List.mem_of_getElem? (i := 922) (by decide +kernel)) rfl
theorem k_923 : Cond.methodLink "PulseRemote$Collision" 61 ⟨"java/lang/Math", "max", "(II)I"⟩ ∈ GW := gw_of (List.mem_of_getElem? (i := 923) (by decide +kernel)) rfl
theorem k_924 : Cond.methodLink "PulseRemote$Collision" 71 ⟨"PulseRemote$Train", "put", "(I)V"⟩ ∈ GW := gw_of (List.mem_of_getElem? (i := 924) (by decide +kernel)) rfl
theorem k_925 : Cond.methodLink "PulseRemote" 274 ⟨"PulseRemote$Train", "longest", "()I"⟩ ∈ GW := gw_of (List.mem_of_getElem? (i := 925) (by decide +kernel)) rfl
theorem k_926 : Cond.instanceMethod ⟨"PulseRemote$Train", "longest", "()I"⟩ ∈ GW := gw_of (List.mem_of_getElem? (i := 926) (by decide +kernel)) rfl
theorem k_927 : Cond.selects "PulseRemote$Train" ⟨"PulseRemote$Train", "longest", "()I"⟩ ⟨"PulseRemote$Train", "longest", "()I"⟩ ∈ GW := gw_of (List.mem_of_getElem? (i := 927) (by decide +kernel)) rfl
theorem k_928 : Cond.code yX10_longest cX10_longest 3 (some .int) ∈ GW := gw_of (List.mem_of_getElem? (i := 928) (by decide +kernel)) rfl
theorem k_929 : Cond.methodLink "PulseRemote$Train" 27 ⟨"PulseRemote$Train", "at", "(I)I"⟩ ∈ GW := gw_of (List.mem_of_getElem? (i := 929) (by decide +kernel)) rfl
theorem k_930 : Cond.methodLink "PulseRemote" 278 ⟨"PulseRemote$Train", "copyFrom", "(LPulseRemote$Train;)V"⟩ ∈ GW := gw_of (List.mem_of_getElem? (i := 930) (by decide +kernel)) rfl
theorem k_932 : Cond.instanceMethod ⟨"PulseRemote", "distort", "(III)I"⟩ ∈ GW := gw_of (List.mem_of_getElem? (i := 932) (by decide +kernel)) rfl
theorem k_933 : Cond.selects "PulseRemote" ⟨"PulseRemote", "distort", "(III)I"⟩ ⟨"PulseRemote", "distort", "(III)I"⟩ ∈ GW := gw_of (List.mem_of_getElem? (i := 933) (by decide +kernel)) rfl
theorem k_934 : Cond.code yX11_distort cX11_distort 4 (some .int) ∈ GW := gw_of (List.mem_of_getElem? (i := 934) (by decide +kernel)) rfl
theorem k_935 : Cond.methodLink "PulseRemote" 280 ⟨"PulseRemote$Train", "stretch", "(I)I"⟩ ∈ GW := gw_of (List.mem_of_getElem? (i := 935) (by decide +kernel)) rfl
theorem k_936 : Cond.instanceMethod ⟨"PulseRemote$Train", "stretch", "(I)I"⟩ ∈ GW := gw_of (List.mem_of_getElem? (i := 936) (by decide +kernel)) rfl
theorem k_937 : Cond.selects "PulseRemote$Train" ⟨"PulseRemote$Train", "stretch", "(I)I"⟩ ⟨"PulseRemote$Train", "stretch", "(I)I"⟩ ∈ GW := gw_of (List.mem_of_getElem? (i := 937) (by decide +kernel)) rfl
theorem k_938 : Cond.code yX10_stretch cX10_stretch 6 (some .int) ∈ GW := gw_of (List.mem_of_getElem? (i := 938) (by decide +kernel)) rfl
theorem k_939 : Cond.constant "PulseRemote$Train" 37 (60000 : Int32) ∈ GW := gw_of (List.mem_of_getElem? (i := 939) (by decide +kernel)) rfl
theorem k_941 : Cond.instanceMethod ⟨"PulseRemote", "duration", "(II)I"⟩ ∈ GW := gw_of (List.mem_of_getElem? (i := 941) (by decide +kernel)) rfl
theorem k_942 : Cond.selects "PulseRemote" ⟨"PulseRemote", "duration", "(II)I"⟩ ⟨"PulseRemote", "duration", "(II)I"⟩ ∈ GW := gw_of (List.mem_of_getElem? (i := 942) (by decide +kernel)) rfl
theorem k_943 : Cond.code yX11_duration cX11_duration 4 (some .int) ∈ GW := gw_of (List.mem_of_getElem? (i := 943) (by decide +kernel)) rfl
theorem k_945 : Cond.instanceMethod ⟨"PulseRemote", "length", "(I)I"⟩ ∈ GW := gw_of (List.mem_of_getElem? (i := 945) (by decide +kernel)) rfl
theorem k_946 : Cond.selects "PulseRemote" ⟨"PulseRemote", "length", "(I)I"⟩ ⟨"PulseRemote", "length", "(I)I"⟩ ∈ GW := gw_of (List.mem_of_getElem? (i := 946) (by decide +kernel)) rfl
theorem k_947 : Cond.code yX11_length cX11_length 2 (some .int) ∈ GW := gw_of (List.mem_of_getElem? (i := 947) (by decide +kernel)) rfl
theorem k_949 : Cond.instanceMethod ⟨"PulseRemote", "frameCount", "(I)I"⟩ ∈ GW := gw_of (List.mem_of_getElem? (i := 949) (by decide +kernel)) rfl
theorem k_950 : Cond.selects "PulseRemote" ⟨"PulseRemote", "frameCount", "(I)I"⟩ ⟨"PulseRemote", "frameCount", "(I)I"⟩ ∈ GW := gw_of (List.mem_of_getElem? (i := 950) (by decide +kernel)) rfl
theorem k_951 : Cond.code yX11_frameCount cX11_frameCount 2 (some .int) ∈ GW := gw_of (List.mem_of_getElem? (i := 951) (by decide +kernel)) rfl
theorem k_953 : Cond.instanceMethod ⟨"PulseRemote", "frame", "(III)I"⟩ ∈ GW := gw_of (List.mem_of_getElem? (i := 953) (by decide +kernel)) rfl
theorem k_954 : Cond.selects "PulseRemote" ⟨"PulseRemote", "frame", "(III)I"⟩ ⟨"PulseRemote", "frame", "(III)I"⟩ ∈ GW := gw_of (List.mem_of_getElem? (i := 954) (by decide +kernel)) rfl
theorem k_955 : Cond.code yX11_frame cX11_frame 4 (some .int) ∈ GW := gw_of (List.mem_of_getElem? (i := 955) (by decide +kernel)) rfl
theorem k_956 : Cond.methodLink "PulseRemote" 289 ⟨"PulseRemote$FrameList", "startOf", "(I)I"⟩ ∈ GW := gw_of (List.mem_of_getElem? (i := 956) (by decide +kernel)) rfl
theorem k_957 : Cond.methodLink "PulseRemote" 292 ⟨"PulseRemote$FrameList", "sizeOf", "(I)I"⟩ ∈ GW := gw_of (List.mem_of_getElem? (i := 957) (by decide +kernel)) rfl
theorem k_958 : Cond.methodLink "PulseRemote" 295 ⟨"PulseRemote$Decoder", "decode", "(LPulseRemote$Table;LPulseRemote$FrameList;II)V"⟩ ∈ GW := gw_of (List.mem_of_getElem? (i := 958) (by decide +kernel)) rfl
theorem k_959 : Cond.instanceMethod ⟨"PulseRemote$Decoder", "decode", "(LPulseRemote$Table;LPulseRemote$FrameList;II)V"⟩ ∈ GW := gw_of (List.mem_of_getElem? (i := 959) (by decide +kernel)) rfl
theorem k_960 : Cond.selects "PulseRemote$Decoder" ⟨"PulseRemote$Decoder", "decode", "(LPulseRemote$Table;LPulseRemote$FrameList;II)V"⟩ ⟨"PulseRemote$Decoder", "decode", "(LPulseRemote$Table;LPulseRemote$FrameList;II)V"⟩ ∈ GW := gw_of (List.mem_of_getElem? (i := 960) (by decide +kernel)) rfl
theorem k_961 : Cond.code yX2_decode cX2_decode 7 none ∈ GW := gw_of (List.mem_of_getElem? (i := 961) (by decide +kernel)) rfl
theorem k_962 : Cond.methodLink "PulseRemote$Decoder" 29 ⟨"PulseRemote$Decoder", "take", "(LPulseRemote$FrameList;I)Z"⟩ ∈ GW := gw_of (List.mem_of_getElem? (i := 962) (by decide +kernel)) rfl
theorem k_964 : Cond.instanceMethod ⟨"PulseRemote$Decoder", "take", "(LPulseRemote$FrameList;I)Z"⟩ ∈ GW := gw_of (List.mem_of_getElem? (i := 964) (by decide +kernel)) rfl
theorem k_965 : Cond.code yX2_take cX2_take 4 (some .boolean) ∈ GW := gw_of (List.mem_of_getElem? (i := 965) (by decide +kernel)) rfl
theorem k_966 : Cond.methodLink "PulseRemote$Decoder" 58 ⟨"PulseRemote$FrameList", "sizeOf", "(I)I"⟩ ∈ GW := gw_of (List.mem_of_getElem? (i := 966) (by decide +kernel)) rfl
theorem k_967 : Cond.methodLink "PulseRemote$Decoder" 67 ⟨"PulseRemote$FrameList", "durationAt", "(II)I"⟩ ∈ GW := gw_of (List.mem_of_getElem? (i := 967) (by decide +kernel)) rfl
theorem k_968 : Cond.methodLink "PulseRemote$Decoder" 38 ⟨"PulseRemote$Table", "protocolAt", "(I)LPulseRemote$Protocol;"⟩ ∈ GW := gw_of (List.mem_of_getElem? (i := 968) (by decide +kernel)) rfl
theorem k_969 : Cond.methodLink "PulseRemote$Decoder" 47 ⟨"PulseRemote$Decoder", "phaseCode", "(LPulseRemote$Protocol;)I"⟩ ∈ GW := gw_of (List.mem_of_getElem? (i := 969) (by decide +kernel)) rfl
theorem k_971 : Cond.instanceMethod ⟨"PulseRemote$Decoder", "phaseCode", "(LPulseRemote$Protocol;)I"⟩ ∈ GW := gw_of (List.mem_of_getElem? (i := 971) (by decide +kernel)) rfl
theorem k_972 : Cond.code yX2_phaseCode cX2_phaseCode 11 (some .int) ∈ GW := gw_of (List.mem_of_getElem? (i := 972) (by decide +kernel)) rfl
theorem k_973 : Cond.methodLink "PulseRemote$Decoder" 77 ⟨"PulseRemote$Decoder", "fits", "(II)Z"⟩ ∈ GW := gw_of (List.mem_of_getElem? (i := 973) (by decide +kernel)) rfl
theorem k_975 : Cond.instanceMethod ⟨"PulseRemote$Decoder", "fits", "(II)Z"⟩ ∈ GW := gw_of (List.mem_of_getElem? (i := 975) (by decide +kernel)) rfl
theorem k_976 : Cond.code yX2_fits cX2_fits 3 (some .boolean) ∈ GW := gw_of (List.mem_of_getElem? (i := 976) (by decide +kernel)) rfl
theorem k_977 : Cond.methodLinkNest "PulseRemote$Decoder" 87 ⟨"PulseRemote", "matches", "(III)Z"⟩ "PulseRemote" ∈ lw_tbl := List.mem_of_getElem? (i := 977) (by decide +kernel)
theorem k_978 : Cond.static ⟨"PulseRemote", "matches", "(III)Z"⟩ ∈ GW := gw_of (List.mem_of_getElem? (i := 978) (by decide +kernel)) rfl
theorem k_979 : Cond.code yX11_matches cX11_matches 4 (some .boolean) ∈ GW := gw_of (List.mem_of_getElem? (i := 979) (by decide +kernel)) rfl
theorem k_980 : Cond.methodLink "PulseRemote$Decoder" 103 ⟨"PulseRemote$Decoder", "placesOf", "(I)J"⟩ ∈ GW := gw_of (List.mem_of_getElem? (i := 980) (by decide +kernel)) rfl
theorem k_982 : Cond.instanceMethod ⟨"PulseRemote$Decoder", "placesOf", "(I)J"⟩ ∈ GW := gw_of (List.mem_of_getElem? (i := 982) (by decide +kernel)) rfl
theorem k_983 : Cond.code yX2_placesOf cX2_placesOf 5 (some .long) ∈ GW := gw_of (List.mem_of_getElem? (i := 983) (by decide +kernel)) rfl
theorem k_984 : Cond.methodLink "PulseRemote$Decoder" 107 ⟨"java/lang/Math", "min", "(II)I"⟩ ∈ GW := gw_of (List.mem_of_getElem? (i := 984) (by decide +kernel)) rfl
theorem k_985 : Cond.methodLink "PulseRemote$Decoder" 112 ⟨"PulseRemote$Decoder", "isIn", "(JI)Z"⟩ ∈ GW := gw_of (List.mem_of_getElem? (i := 985) (by decide +kernel)) rfl
theorem k_986 : Cond.static ⟨"PulseRemote$Decoder", "isIn", "(JI)Z"⟩ ∈ GW := gw_of (List.mem_of_getElem? (i := 986) (by decide +kernel)) rfl
theorem k_987 : Cond.code yX2_isIn cX2_isIn 3 (some .boolean) ∈ GW := gw_of (List.mem_of_getElem? (i := 987) (by decide +kernel)) rfl
theorem k_988 : Cond.methodLink "PulseRemote$Decoder" 116 ⟨"PulseRemote$Decoder", "restOfPhaseCode", "(LPulseRemote$Protocol;IJJ)I"⟩ ∈ GW := gw_of (List.mem_of_getElem? (i := 988) (by decide +kernel)) rfl
theorem k_990 : Cond.instanceMethod ⟨"PulseRemote$Decoder", "restOfPhaseCode", "(LPulseRemote$Protocol;IJJ)I"⟩ ∈ GW := gw_of (List.mem_of_getElem? (i := 990) (by decide +kernel)) rfl
theorem k_991 : Cond.code yX2_restOfPhaseCode cX2_restOfPhaseCode 12 (some .int) ∈ GW := gw_of (List.mem_of_getElem? (i := 991) (by decide +kernel)) rfl
theorem k_992 : Cond.methodLink "PulseRemote$Decoder" 100 ⟨"PulseRemote$Protocol", "maskAt", "(I)I"⟩ ∈ GW := gw_of (List.mem_of_getElem? (i := 992) (by decide +kernel)) rfl
theorem k_993 : Cond.methodLink "PulseRemote$Decoder" 51 ⟨"PulseRemote$Decoder", "plainCode", "(LPulseRemote$Protocol;)I"⟩ ∈ GW := gw_of (List.mem_of_getElem? (i := 993) (by decide +kernel)) rfl
theorem k_995 : Cond.instanceMethod ⟨"PulseRemote$Decoder", "plainCode", "(LPulseRemote$Protocol;)I"⟩ ∈ GW := gw_of (List.mem_of_getElem? (i := 995) (by decide +kernel)) rfl
theorem k_996 : Cond.code yX2_plainCode cX2_plainCode 6 (some .int) ∈ GW := gw_of (List.mem_of_getElem? (i := 996) (by decide +kernel)) rfl
theorem k_997 : Cond.methodLink "PulseRemote$Decoder" 54 ⟨"PulseRemote$Decoder", "protocolOfShortFrame", "(LPulseRemote$Table;)I"⟩ ∈ GW := gw_of (List.mem_of_getElem? (i := 997) (by decide +kernel)) rfl
theorem k_999 : Cond.instanceMethod ⟨"PulseRemote$Decoder", "protocolOfShortFrame", "(LPulseRemote$Table;)I"⟩ ∈ GW := gw_of (List.mem_of_getElem? (i := 999) (by decide +kernel)) rfl
theorem k_1000 : Cond.code yX2_protocolOfShortFrame cX2_protocolOfShortFrame 4 (some .int) ∈ GW := gw_of (List.mem_of_getElem? (i := 1000) (by decide +kernel)) rfl
theorem k_1001 : Cond.methodLink "PulseRemote" 299 ⟨"PulseRemote$Decoder", "isDecoded", "()Z"⟩ ∈ GW := gw_of (List.mem_of_getElem? (i := 1001) (by decide +kernel)) rfl
theorem k_1002 : Cond.instanceMethod ⟨"PulseRemote$Decoder", "isDecoded", "()Z"⟩ ∈ GW := gw_of (List.mem_of_getElem? (i := 1002) (by decide +kernel)) rfl
theorem k_1003 : Cond.selects "PulseRemote$Decoder" ⟨"PulseRemote$Decoder", "isDecoded", "()Z"⟩ ⟨"PulseRemote$Decoder", "isDecoded", "()Z"⟩ ∈ GW := gw_of (List.mem_of_getElem? (i := 1003) (by decide +kernel)) rfl
theorem k_1004 : Cond.code yX2_isDecoded cX2_isDecoded 1 (some .boolean) ∈ GW := gw_of (List.mem_of_getElem? (i := 1004) (by decide +kernel)) rfl
theorem k_1005 : Cond.methodLink "PulseRemote" 308 ⟨"PulseRemote$Decoder", "isCode", "()Z"⟩ ∈ GW := gw_of (List.mem_of_getElem? (i := 1005) (by decide +kernel)) rfl
theorem k_1006 : Cond.instanceMethod ⟨"PulseRemote$Decoder", "isCode", "()Z"⟩ ∈ GW := gw_of (List.mem_of_getElem? (i := 1006) (by decide +kernel)) rfl
theorem k_1007 : Cond.selects "PulseRemote$Decoder" ⟨"PulseRemote$Decoder", "isCode", "()Z"⟩ ⟨"PulseRemote$Decoder", "isCode", "()Z"⟩ ∈ GW := gw_of (List.mem_of_getElem? (i := 1007) (by decide +kernel)) rfl
theorem k_1008 : Cond.code yX2_isCode cX2_isCode 1 (some .boolean) ∈ GW := gw_of (List.mem_of_getElem? (i := 1008) (by decide +kernel)) rfl
theorem k_1010 : Cond.instanceMethod ⟨"PulseRemote", "deviation", "(II)I"⟩ ∈ GW := gw_of (List.mem_of_getElem? (i := 1010) (by decide +kernel)) rfl
theorem k_1011 : Cond.selects "PulseRemote" ⟨"PulseRemote", "deviation", "(II)I"⟩ ⟨"PulseRemote", "deviation", "(II)I"⟩ ∈ GW := gw_of (List.mem_of_getElem? (i := 1011) (by decide +kernel)) rfl
theorem k_1012 : Cond.code yX11_deviation cX11_deviation 4 (some .int) ∈ GW := gw_of (List.mem_of_getElem? (i := 1012) (by decide +kernel)) rfl
theorem k_1013 : Cond.methodLink "PulseRemote" 311 ⟨"PulseRemote", "worstDeviation", "(ILPulseRemote$Train;)I"⟩ ∈ GW := gw_of (List.mem_of_getElem? (i := 1013) (by decide +kernel)) rfl
theorem k_1015 : Cond.instanceMethod ⟨"PulseRemote", "worstDeviation", "(ILPulseRemote$Train;)I"⟩ ∈ GW := gw_of (List.mem_of_getElem? (i := 1015) (by decide +kernel)) rfl
theorem k_1016 : Cond.code yX11_worstDeviation cX11_worstDeviation 6 (some .int) ∈ GW := gw_of (List.mem_of_getElem? (i := 1016) (by decide +kernel)) rfl
theorem k_1017 : Cond.methodLink "PulseRemote" 360 ⟨"PulseRemote$FrameList", "durationAt", "(II)I"⟩ ∈ GW := gw_of (List.mem_of_getElem? (i := 1017) (by decide +kernel)) rfl
theorem k_1018 : Cond.methodLink "PulseRemote" 363 ⟨"java/lang/Math", "abs", "(I)I"⟩ ∈ GW := gw_of (List.mem_of_getElem? (i := 1018) (by decide +kernel)) rfl
theorem k_1019 : Cond.static Lib.Math.abs.name ∈ GW := gw_of (List.mem_of_getElem? (i := 1019) (by decide +kernel)) rfl
theorem k_1020 : Cond.code Lib.Math.abs.name Lib.Math.abs.code 1 (some .int) ∈ GW := gw_of (List.mem_of_getElem? (i := 1020) (by decide +kernel)) rfl
theorem k_1021 : Cond.methodLink "PulseRemote" 368 ⟨"java/lang/Math", "max", "(II)I"⟩ ∈ GW := gw_of (List.mem_of_getElem? (i := 1021) (by decide +kernel)) rfl
theorem k_1023 : Cond.instanceMethod ⟨"PulseRemote", "pressCount", "(I)I"⟩ ∈ GW := gw_of (List.mem_of_getElem? (i := 1023) (by decide +kernel)) rfl
theorem k_1024 : Cond.selects "PulseRemote" ⟨"PulseRemote", "pressCount", "(I)I"⟩ ⟨"PulseRemote", "pressCount", "(I)I"⟩ ∈ GW := gw_of (List.mem_of_getElem? (i := 1024) (by decide +kernel)) rfl
theorem k_1025 : Cond.code yX11_pressCount cX11_pressCount 2 (some .int) ∈ GW := gw_of (List.mem_of_getElem? (i := 1025) (by decide +kernel)) rfl
theorem k_1026 : Cond.methodLink "PulseRemote" 315 ⟨"PulseRemote$PressList", "find", "(LPulseRemote$State;ILPulseRemote$FrameList;LPulseRemote$Decoder;)V"⟩ ∈ GW := gw_of (List.mem_of_getElem? (i := 1026) (by decide +kernel)) rfl
theorem k_1027 : Cond.instanceMethod ⟨"PulseRemote$PressList", "find", "(LPulseRemote$State;ILPulseRemote$FrameList;LPulseRemote$Decoder;)V"⟩ ∈ GW := gw_of (List.mem_of_getElem? (i := 1027) (by decide +kernel)) rfl
theorem k_1028 : Cond.selects "PulseRemote$PressList" ⟨"PulseRemote$PressList", "find", "(LPulseRemote$State;ILPulseRemote$FrameList;LPulseRemote$Decoder;)V"⟩ ⟨"PulseRemote$PressList", "find", "(LPulseRemote$State;ILPulseRemote$FrameList;LPulseRemote$Decoder;)V"⟩ ∈ GW := gw_of (List.mem_of_getElem? (i := 1028) (by decide +kernel)) rfl
theorem k_1029 : Cond.code yX5_find cX5_find 8 none ∈ GW := gw_of (List.mem_of_getElem? (i := 1029) (by decide +kernel)) rfl
theorem k_1030 : Cond.methodLink "PulseRemote$PressList" 21 ⟨"PulseRemote$State", "trainAt", "(I)LPulseRemote$Train;"⟩ ∈ GW := gw_of (List.mem_of_getElem? (i := 1030) (by decide +kernel)) rfl
theorem k_1031 : Cond.methodLink "PulseRemote$PressList" 31 ⟨"PulseRemote$FrameList", "split", "(LPulseRemote$Train;I)V"⟩ ∈ GW := gw_of (List.mem_of_getElem? (i := 1031) (by decide +kernel)) rfl
theorem k_1032 : Cond.methodLink "PulseRemote$PressList" 53 ⟨"PulseRemote$Decoder", "decode", "(LPulseRemote$Table;LPulseRemote$FrameList;II)V"⟩ ∈ GW := gw_of (List.mem_of_getElem? (i := 1032) (by decide +kernel)) rfl
theorem k_1033 : Cond.methodLink "PulseRemote$PressList" 59 ⟨"PulseRemote$FrameList", "spaceBefore", "(I)I"⟩ ∈ GW := gw_of (List.mem_of_getElem? (i := 1033) (by decide +kernel)) rfl
theorem k_1034 : Cond.instanceMethod ⟨"PulseRemote$FrameList", "spaceBefore", "(I)I"⟩ ∈ GW := gw_of (List.mem_of_getElem? (i := 1034) (by decide +kernel)) rfl
theorem k_1035 : Cond.selects "PulseRemote$FrameList" ⟨"PulseRemote$FrameList", "spaceBefore", "(I)I"⟩ ⟨"PulseRemote$FrameList", "spaceBefore", "(I)I"⟩ ∈ GW := gw_of (List.mem_of_getElem? (i := 1035) (by decide +kernel)) rfl
theorem k_1036 : Cond.code yX3_spaceBefore cX3_spaceBefore 2 (some .int) ∈ GW := gw_of (List.mem_of_getElem? (i := 1036) (by decide +kernel)) rfl
theorem k_1037 : Cond.methodLink "PulseRemote$PressList" 66 ⟨"PulseRemote$PressList", "continuesLatest", "(LPulseRemote$Decoder;LPulseRemote$Table;)Z"⟩ ∈ GW := gw_of (List.mem_of_getElem? (i := 1037) (by decide +kernel)) rfl
theorem k_1039 : Cond.instanceMethod ⟨"PulseRemote$PressList", "continuesLatest", "(LPulseRemote$Decoder;LPulseRemote$Table;)Z"⟩ ∈ GW := gw_of (List.mem_of_getElem? (i := 1039) (by decide +kernel)) rfl
theorem k_1040 : Cond.code yX5_continuesLatest cX5_continuesLatest 3 (some .boolean) ∈ GW := gw_of (List.mem_of_getElem? (i := 1040) (by decide +kernel)) rfl
theorem k_1041 : Cond.methodLink "PulseRemote$PressList" 81 ⟨"PulseRemote$Decoder", "isDecoded", "()Z"⟩ ∈ GW := gw_of (List.mem_of_getElem? (i := 1041) (by decide +kernel)) rfl
theorem k_1042 : Cond.methodLink "PulseRemote$PressList" 73 ⟨"PulseRemote$Decoder", "isCode", "()Z"⟩ ∈ GW := gw_of (List.mem_of_getElem? (i := 1042) (by decide +kernel)) rfl
theorem k_1043 : Cond.methodLink "PulseRemote$PressList" 96 ⟨"PulseRemote$Table", "protocolAt", "(I)LPulseRemote$Protocol;"⟩ ∈ GW := gw_of (List.mem_of_getElem? (i := 1043) (by decide +kernel)) rfl
theorem k_1044 : Cond.methodLink "PulseRemote$PressList" 70 ⟨"PulseRemote$PressList", "countLatest", "()V"⟩ ∈ GW := gw_of (List.mem_of_getElem? (i := 1044) (by decide +kernel)) rfl
theorem k_1046 : Cond.instanceMethod ⟨"PulseRemote$PressList", "countLatest", "()V"⟩ ∈ GW := gw_of (List.mem_of_getElem? (i := 1046) (by decide +kernel)) rfl
theorem k_1047 : Cond.code yX5_countLatest cX5_countLatest 1 none ∈ GW := gw_of (List.mem_of_getElem? (i := 1047) (by decide +kernel)) rfl
theorem k_1048 : Cond.methodLink "PulseRemote$PressList" 77 ⟨"PulseRemote$PressList", "begin", "(LPulseRemote$Decoder;)V"⟩ ∈ GW := gw_of (List.mem_of_getElem? (i := 1048) (by decide +kernel)) rfl
theorem k_1050 : Cond.instanceMethod ⟨"PulseRemote$PressList", "begin", "(LPulseRemote$Decoder;)V"⟩ ∈ GW := gw_of (List.mem_of_getElem? (i := 1050) (by decide +kernel)) rfl
theorem k_1051 : Cond.code yX5_begin cX5_begin 2 none ∈ GW := gw_of (List.mem_of_getElem? (i := 1051) (by decide +kernel)) rfl
theorem k_1053 : Cond.instanceMethod ⟨"PulseRemote", "press", "(III)I"⟩ ∈ GW := gw_of (List.mem_of_getElem? (i := 1053) (by decide +kernel)) rfl
theorem k_1054 : Cond.selects "PulseRemote" ⟨"PulseRemote", "press", "(III)I"⟩ ⟨"PulseRemote", "press", "(III)I"⟩ ∈ GW := gw_of (List.mem_of_getElem? (i := 1054) (by decide +kernel)) rfl
theorem k_1055 : Cond.code yX11_press cX11_press 4 (some .int) ∈ GW := gw_of (List.mem_of_getElem? (i := 1055) (by decide +kernel)) rfl
theorem k_1056 : Cond.methodLink "PulseRemote" 332 ⟨"PulseRemote$Table", "findButtonOf", "(II)I"⟩ ∈ GW := gw_of (List.mem_of_getElem? (i := 1056) (by decide +kernel)) rfl
theorem k_1057 : Cond.instanceMethod ⟨"PulseRemote$Table", "findButtonOf", "(II)I"⟩ ∈ GW := gw_of (List.mem_of_getElem? (i := 1057) (by decide +kernel)) rfl
theorem k_1058 : Cond.selects "PulseRemote$Table" ⟨"PulseRemote$Table", "findButtonOf", "(II)I"⟩ ⟨"PulseRemote$Table", "findButtonOf", "(II)I"⟩ ∈ GW := gw_of (List.mem_of_getElem? (i := 1058) (by decide +kernel)) rfl
theorem k_1059 : Cond.code yX8_findButtonOf cX8_findButtonOf 3 (some .int) ∈ GW := gw_of (List.mem_of_getElem? (i := 1059) (by decide +kernel)) rfl
theorem k_1060 : Cond.methodLink "PulseRemote$Table" 65 ⟨"PulseRemote$Protocol", "identityOf", "(I)I"⟩ ∈ GW := gw_of (List.mem_of_getElem? (i := 1060) (by decide +kernel)) rfl
theorem k_1061 : Cond.methodLink "PulseRemote$Table" 68 ⟨"PulseRemote$Table", "findButton", "(II)I"⟩ ∈ GW := gw_of (List.mem_of_getElem? (i := 1061) (by decide +kernel)) rfl
theorem k_1063 : Cond.instanceMethod ⟨"PulseRemote", "strayCount", "(I)I"⟩ ∈ GW := gw_of (List.mem_of_getElem? (i := 1063) (by decide +kernel)) rfl
theorem k_1064 : Cond.selects "PulseRemote" ⟨"PulseRemote", "strayCount", "(I)I"⟩ ⟨"PulseRemote", "strayCount", "(I)I"⟩ ∈ GW := gw_of (List.mem_of_getElem? (i := 1064) (by decide +kernel)) rfl
theorem k_1065 : Cond.code yX11_strayCount cX11_strayCount 2 (some .int) ∈ GW := gw_of (List.mem_of_getElem? (i := 1065) (by decide +kernel)) rfl
theorem k_1067 : Cond.instanceMethod ⟨"PulseRemote", "neededTolerance", "(I)I"⟩ ∈ GW := gw_of (List.mem_of_getElem? (i := 1067) (by decide +kernel)) rfl
theorem k_1068 : Cond.selects "PulseRemote" ⟨"PulseRemote", "neededTolerance", "(I)I"⟩ ⟨"PulseRemote", "neededTolerance", "(I)I"⟩ ∈ GW := gw_of (List.mem_of_getElem? (i := 1068) (by decide +kernel)) rfl
theorem k_1069 : Cond.code yX11_neededTolerance cX11_neededTolerance 4 (some .int) ∈ GW := gw_of (List.mem_of_getElem? (i := 1069) (by decide +kernel)) rfl
theorem k_1070 : Cond.methodLink "PulseRemote" 338 ⟨"PulseRemote", "toleranceFor", "(II)I"⟩ ∈ GW := gw_of (List.mem_of_getElem? (i := 1070) (by decide +kernel)) rfl
theorem k_1072 : Cond.instanceMethod ⟨"PulseRemote", "toleranceFor", "(II)I"⟩ ∈ GW := gw_of (List.mem_of_getElem? (i := 1072) (by decide +kernel)) rfl
theorem k_1073 : Cond.code yX11_toleranceFor cX11_toleranceFor 4 (some .int) ∈ GW := gw_of (List.mem_of_getElem? (i := 1073) (by decide +kernel)) rfl
theorem k_1075 : Cond.instanceMethod ⟨"PulseRemote", "explain", "(III)I"⟩ ∈ GW := gw_of (List.mem_of_getElem? (i := 1075) (by decide +kernel)) rfl
theorem k_1076 : Cond.selects "PulseRemote" ⟨"PulseRemote", "explain", "(III)I"⟩ ⟨"PulseRemote", "explain", "(III)I"⟩ ∈ GW := gw_of (List.mem_of_getElem? (i := 1076) (by decide +kernel)) rfl
theorem k_1077 : Cond.code yX11_explain cX11_explain 9 (some .int) ∈ GW := gw_of (List.mem_of_getElem? (i := 1077) (by decide +kernel)) rfl
theorem k_1078 : Cond.methodLink "PulseRemote" 341 ⟨"PulseRemote", "writeButtonFrames", "()V"⟩ ∈ GW := gw_of (List.mem_of_getElem? (i := 1078) (by decide +kernel)) rfl
theorem k_1080 : Cond.instanceMethod ⟨"PulseRemote", "writeButtonFrames", "()V"⟩ ∈ GW := gw_of (List.mem_of_getElem? (i := 1080) (by decide +kernel)) rfl
theorem k_1081 : Cond.code yX11_writeButtonFrames cX11_writeButtonFrames 4 none ∈ GW := gw_of (List.mem_of_getElem? (i := 1081) (by decide +kernel)) rfl
theorem k_1082 : Cond.methodLink "PulseRemote" 344 ⟨"PulseRemote", "buttonFrameAt", "(I)LPulseRemote$Train;"⟩ ∈ GW := gw_of (List.mem_of_getElem? (i := 1082) (by decide +kernel)) rfl
theorem k_1084 : Cond.instanceMethod ⟨"PulseRemote", "buttonFrameAt", "(I)LPulseRemote$Train;"⟩ ∈ GW := gw_of (List.mem_of_getElem? (i := 1084) (by decide +kernel)) rfl
theorem k_1085 : Cond.code yX11_buttonFrameAt cX11_buttonFrameAt 2 (some (.object "PulseRemote$Train")) ∈ GW := gw_of (List.mem_of_getElem? (i := 1085) (by decide +kernel)) rfl
theorem k_1086 : Cond.methodLink "PulseRemote" 347 ⟨"PulseRemote", "explainingOffset", "(LPulseRemote$Train;LPulseRemote$Train;LPulseRemote$Train;I)I"⟩ ∈ GW := gw_of (List.mem_of_getElem? (i := 1086) (by decide +kernel)) rfl
theorem k_1088 : Cond.instanceMethod ⟨"PulseRemote", "explainingOffset", "(LPulseRemote$Train;LPulseRemote$Train;LPulseRemote$Train;I)I"⟩ ∈ GW := gw_of (List.mem_of_getElem? (i := 1088) (by decide +kernel)) rfl
theorem k_1089 : Cond.code yX11_explainingOffset cX11_explainingOffset 6 (some .int) ∈ GW := gw_of (List.mem_of_getElem? (i := 1089) (by decide +kernel)) rfl
theorem k_1090 : Cond.methodLink "PulseRemote" 371 ⟨"PulseRemote", "isCollision", "(LPulseRemote$Train;I)Z"⟩ ∈ GW := gw_of (List.mem_of_getElem? (i := 1090) (by decide +kernel)) rfl
theorem k_1092 : Cond.instanceMethod ⟨"PulseRemote", "isCollision", "(LPulseRemote$Train;I)Z"⟩ ∈ GW := gw_of (List.mem_of_getElem? (i := 1092) (by decide +kernel)) rfl
theorem k_1093 : Cond.code yX11_isCollision cX11_isCollision 4 (some .boolean) ∈ GW := gw_of (List.mem_of_getElem? (i := 1093) (by decide +kernel)) rfl
theorem k_1094 : Cond.methodLink "PulseRemote" 375 ⟨"PulseRemote$Collision", "nextDuration", "()I"⟩ ∈ GW := gw_of (List.mem_of_getElem? (i := 1094) (by decide +kernel)) rfl
theorem k_1095 : Cond.methodLink "PulseRemote" 378 ⟨"PulseRemote", "matches", "(III)Z"⟩ ∈ GW := gw_of (List.mem_of_getElem? (i := 1095) (by decide +kernel)) rfl
theorem k_1097 : Cond.instanceMethod ⟨"PulseRemote", "ghosts", "(I)I"⟩ ∈ GW := gw_of (List.mem_of_getElem? (i := 1097) (by decide +kernel)) rfl
theorem k_1098 : Cond.selects "PulseRemote" ⟨"PulseRemote", "ghosts", "(I)I"⟩ ⟨"PulseRemote", "ghosts", "(I)I"⟩ ∈ GW := gw_of (List.mem_of_getElem? (i := 1098) (by decide +kernel)) rfl
theorem k_1099 : Cond.code yX11_ghosts cX11_ghosts 6 (some .int) ∈ GW := gw_of (List.mem_of_getElem? (i := 1099) (by decide +kernel)) rfl
theorem k_1100 : Cond.methodLink "PulseRemote" 351 ⟨"PulseRemote", "showsGhost", "(III)Z"⟩ ∈ GW := gw_of (List.mem_of_getElem? (i := 1100) (by decide +kernel)) rfl
theorem k_1102 : Cond.instanceMethod ⟨"PulseRemote", "showsGhost", "(III)Z"⟩ ∈ GW := gw_of (List.mem_of_getElem? (i := 1102) (by decide +kernel)) rfl
theorem k_1103 : Cond.code yX11_showsGhost cX11_showsGhost 6 (some .boolean) ∈ GW := gw_of (List.mem_of_getElem? (i := 1103) (by decide +kernel)) rfl
theorem k_1105 : Cond.instanceMethod ⟨"PulseRemote", "undo", "()I"⟩ ∈ GW := gw_of (List.mem_of_getElem? (i := 1105) (by decide +kernel)) rfl
theorem k_1106 : Cond.selects "PulseRemote" ⟨"PulseRemote", "undo", "()I"⟩ ⟨"PulseRemote", "undo", "()I"⟩ ∈ GW := gw_of (List.mem_of_getElem? (i := 1106) (by decide +kernel)) rfl
theorem k_1107 : Cond.code yX11_undo cX11_undo 2 (some .int) ∈ GW := gw_of (List.mem_of_getElem? (i := 1107) (by decide +kernel)) rfl
theorem k_1115 : Cond.fieldLink "PulseRemoteModel" 7 "PulseRemoteModel" "s" "[I" ∈ GW := gw_of (List.mem_of_getElem? (i := 1115) (by decide +kernel)) rfl
theorem k_1116 : Cond.fieldLink "PulseRemoteModel" 13 "PulseRemoteModel" "past" "[I" ∈ GW := gw_of (List.mem_of_getElem? (i := 1116) (by decide +kernel)) rfl
theorem k_1117 : Cond.fieldLink "PulseRemoteModel" 64 "PulseRemoteModel" "pasts" "I" ∈ GW := gw_of (List.mem_of_getElem? (i := 1117) (by decide +kernel)) rfl
theorem k_1118 : Cond.fieldLink "PulseRemoteModel" 16 "PulseRemoteModel" "text" "[B" ∈ GW := gw_of (List.mem_of_getElem? (i := 1118) (by decide +kernel)) rfl
theorem k_1119 : Cond.fieldLink "PulseRemoteModel" 98 "PulseRemoteModel" "typed" "I" ∈ GW := gw_of (List.mem_of_getElem? (i := 1119) (by decide +kernel)) rfl
theorem k_1120 : Cond.fieldLink "PulseRemoteModel" 121 "PulseRemoteModel" "next" "I" ∈ GW := gw_of (List.mem_of_getElem? (i := 1120) (by decide +kernel)) rfl
theorem k_1121 : Cond.fieldLink "PulseRemoteModel" 128 "PulseRemoteModel" "begin" "I" ∈ GW := gw_of (List.mem_of_getElem? (i := 1121) (by decide +kernel)) rfl
theorem k_1122 : Cond.fieldLink "PulseRemoteModel" 135 "PulseRemoteModel" "kind" "I" ∈ GW := gw_of (List.mem_of_getElem? (i := 1122) (by decide +kernel)) rfl
theorem k_1123 : Cond.fieldLink "PulseRemoteModel" 131 "PulseRemoteModel" "told" "J" ∈ GW := gw_of (List.mem_of_getElem? (i := 1123) (by decide +kernel)) rfl
theorem k_1124 : Cond.fieldLink "PulseRemoteModel" 150 "PulseRemoteModel" "isWrong" "Z" ∈ GW := gw_of (List.mem_of_getElem? (i := 1124) (by decide +kernel)) rfl
theorem k_1125 : Cond.fieldLink "PulseRemoteModel" 20 "PulseRemoteModel" "before" "[I" ∈ GW := gw_of (List.mem_of_getElem? (i := 1125) (by decide +kernel)) rfl
theorem k_1126 : Cond.fieldLink "PulseRemoteModel" 23 "PulseRemoteModel" "made" "[I" ∈ GW := gw_of (List.mem_of_getElem? (i := 1126) (by decide +kernel)) rfl
theorem k_1127 : Cond.fieldLink "PulseRemoteModel" 179 "PulseRemoteModel" "mades" "I" ∈ GW := gw_of (List.mem_of_getElem? (i := 1127) (by decide +kernel)) rfl
theorem k_1128 : Cond.fieldLink "PulseRemoteModel" 26 "PulseRemoteModel" "d" "[I" ∈ GW := gw_of (List.mem_of_getElem? (i := 1128) (by decide +kernel)) rfl
theorem k_1129 : Cond.fieldLink "PulseRemoteModel" 193 "PulseRemoteModel" "n" "I" ∈ GW := gw_of (List.mem_of_getElem? (i := 1129) (by decide +kernel)) rfl
theorem k_1130 : Cond.fieldLink "PulseRemoteModel" 29 "PulseRemoteModel" "other" "[I" ∈ GW := gw_of (List.mem_of_getElem? (i := 1130) (by decide +kernel)) rfl
theorem k_1131 : Cond.fieldLink "PulseRemoteModel" 212 "PulseRemoteModel" "others" "I" ∈ GW := gw_of (List.mem_of_getElem? (i := 1131) (by decide +kernel)) rfl
theorem k_1132 : Cond.fieldLink "PulseRemoteModel" 32 "PulseRemoteModel" "from" "[I" ∈ GW := gw_of (List.mem_of_getElem? (i := 1132) (by decide +kernel)) rfl
theorem k_1133 : Cond.fieldLink "PulseRemoteModel" 35 "PulseRemoteModel" "to" "[I" ∈ GW := gw_of (List.mem_of_getElem? (i := 1133) (by decide +kernel)) rfl
theorem k_1134 : Cond.fieldLink "PulseRemoteModel" 38 "PulseRemoteModel" "first" "[I" ∈ GW := gw_of (List.mem_of_getElem? (i := 1134) (by decide +kernel)) rfl
theorem k_1135 : Cond.fieldLink "PulseRemoteModel" 41 "PulseRemoteModel" "many" "[I" ∈ GW := gw_of (List.mem_of_getElem? (i := 1135) (by decide +kernel)) rfl
theorem k_1136 : Cond.fieldLink "PulseRemoteModel" 224 "PulseRemoteModel" "frames" "I" ∈ GW := gw_of (List.mem_of_getElem? (i := 1136) (by decide +kernel)) rfl
theorem k_1137 : Cond.fieldLink "PulseRemoteModel" 229 "PulseRemoteModel" "tolerance" "I" ∈ GW := gw_of (List.mem_of_getElem? (i := 1137) (by decide +kernel)) rfl
theorem k_1138 : Cond.fieldLink "PulseRemoteModel" 44 "PulseRemoteModel" "isDead" "[Z" ∈ GW := gw_of (List.mem_of_getElem? (i := 1138) (by decide +kernel)) rfl
theorem k_1139 : Cond.fieldLink "PulseRemoteModel" 48 "PulseRemoteModel" "chosen" "[I" ∈ GW := gw_of (List.mem_of_getElem? (i := 1139) (by decide +kernel)) rfl
theorem k_1140 : Cond.fieldLink "PulseRemoteModel" 51 "PulseRemoteModel" "run" "[I" ∈ GW := gw_of (List.mem_of_getElem? (i := 1140) (by decide +kernel)) rfl
theorem k_1141 : Cond.fieldLink "PulseRemoteModel" 265 "PulseRemoteModel" "decodedTo" "I" ∈ GW := gw_of (List.mem_of_getElem? (i := 1141) (by decide +kernel)) rfl
theorem k_1142 : Cond.fieldLink "PulseRemoteModel" 268 "PulseRemoteModel" "code" "I" ∈ GW := gw_of (List.mem_of_getElem? (i := 1142) (by decide +kernel)) rfl
theorem k_1143 : Cond.fieldLink "PulseRemoteModel" 259 "PulseRemoteModel" "isShortFrame" "Z" ∈ GW := gw_of (List.mem_of_getElem? (i := 1143) (by decide +kernel)) rfl
theorem k_1144 : Cond.fieldLink "PulseRemoteModel" 54 "PulseRemoteModel" "press" "[I" ∈ GW := gw_of (List.mem_of_getElem? (i := 1144) (by decide +kernel)) rfl
theorem k_1145 : Cond.fieldLink "PulseRemoteModel" 285 "PulseRemoteModel" "presses" "I" ∈ GW := gw_of (List.mem_of_getElem? (i := 1145) (by decide +kernel)) rfl
theorem k_1146 : Cond.fieldLink "PulseRemoteModel" 288 "PulseRemoteModel" "strays" "I" ∈ GW := gw_of (List.mem_of_getElem? (i := 1146) (by decide +kernel)) rfl
theorem k_1147 : Cond.fieldLink "PulseRemoteModel" 57 "PulseRemoteModel" "sorted" "[I" ∈ GW := gw_of (List.mem_of_getElem? (i := 1147) (by decide +kernel)) rfl
theorem k_1148 : Cond.fieldLink "PulseRemoteModel" 294 "PulseRemoteModel" "sorteds" "I" ∈ GW := gw_of (List.mem_of_getElem? (i := 1148) (by decide +kernel)) rfl
theorem k_1149 : Cond.fieldLink "PulseRemoteModel" 297 "PulseRemoteModel" "clusterMany" "I" ∈ GW := gw_of (List.mem_of_getElem? (i := 1149) (by decide +kernel)) rfl
theorem k_1150 : Cond.fieldLink "PulseRemoteModel" 60 "PulseRemoteModel" "mean" "[I" ∈ GW := gw_of (List.mem_of_getElem? (i := 1150) (by decide +kernel)) rfl
theorem k_1226 : Cond.instanceMethod ⟨"PulseRemoteModel", "undo", "()I"⟩ ∈ GW := gw_of (List.mem_of_getElem? (i := 1226) (by decide +kernel)) rfl
theorem k_1227 : Cond.selects "PulseRemoteModel" ⟨"PulseRemoteModel", "undo", "()I"⟩ ⟨"PulseRemoteModel", "undo", "()I"⟩ ∈ GW := gw_of (List.mem_of_getElem? (i := 1227) (by decide +kernel)) rfl
theorem k_1228 : Cond.code yX12_undo cX12_undo 2 (some .int) ∈ GW := gw_of (List.mem_of_getElem? (i := 1228) (by decide +kernel)) rfl
theorem k_1230 : Cond.instanceMethod ⟨"PulseRemoteModel", "addProtocol", "(IIII)I"⟩ ∈ GW := gw_of (List.mem_of_getElem? (i := 1230) (by decide +kernel)) rfl
theorem k_1231 : Cond.selects "PulseRemoteModel" ⟨"PulseRemoteModel", "addProtocol", "(IIII)I"⟩ ⟨"PulseRemoteModel", "addProtocol", "(IIII)I"⟩ ∈ GW := gw_of (List.mem_of_getElem? (i := 1231) (by decide +kernel)) rfl
theorem k_1232 : Cond.code yX12_addProtocol cX12_addProtocol 5 (some .int) ∈ GW := gw_of (List.mem_of_getElem? (i := 1232) (by decide +kernel)) rfl
theorem k_1233 : Cond.methodLink "PulseRemoteModel" 68 ⟨"PulseRemoteModel", "in", "(III)Z"⟩ ∈ GW := gw_of (List.mem_of_getElem? (i := 1233) (by decide +kernel)) rfl
theorem k_1234 : Cond.static ⟨"PulseRemoteModel", "in", "(III)Z"⟩ ∈ GW := gw_of (List.mem_of_getElem? (i := 1234) (by decide +kernel)) rfl
theorem k_1235 : Cond.code yX12_in cX12_in 3 (some .boolean) ∈ GW := gw_of (List.mem_of_getElem? (i := 1235) (by decide +kernel)) rfl
theorem k_1236 : Cond.methodLink "PulseRemoteModel" 80 ⟨"PulseRemoteModel", "note", "()V"⟩ ∈ GW := gw_of (List.mem_of_getElem? (i := 1236) (by decide +kernel)) rfl
theorem k_1238 : Cond.instanceMethod ⟨"PulseRemoteModel", "note", "()V"⟩ ∈ GW := gw_of (List.mem_of_getElem? (i := 1238) (by decide +kernel)) rfl
theorem k_1239 : Cond.code yX12_note cX12_note 2 none ∈ GW := gw_of (List.mem_of_getElem? (i := 1239) (by decide +kernel)) rfl
theorem k_1240 : Cond.methodLink "PulseRemoteModel" 83 ⟨"PulseRemoteModel", "addsProtocol", "(IIII)V"⟩ ∈ GW := gw_of (List.mem_of_getElem? (i := 1240) (by decide +kernel)) rfl
theorem k_1242 : Cond.instanceMethod ⟨"PulseRemoteModel", "addsProtocol", "(IIII)V"⟩ ∈ GW := gw_of (List.mem_of_getElem? (i := 1242) (by decide +kernel)) rfl
theorem k_1243 : Cond.code yX12_addsProtocol cX12_addsProtocol 6 none ∈ GW := gw_of (List.mem_of_getElem? (i := 1243) (by decide +kernel)) rfl
theorem k_1244 : Cond.methodLink "PulseRemoteModel" 72 ⟨"PulseRemoteModel", "at", "(I)I"⟩ ∈ GW := gw_of (List.mem_of_getElem? (i := 1244) (by decide +kernel)) rfl
theorem k_1245 : Cond.static ⟨"PulseRemoteModel", "at", "(I)I"⟩ ∈ GW := gw_of (List.mem_of_getElem? (i := 1245) (by decide +kernel)) rfl
theorem k_1246 : Cond.code yX12_at cX12_at 1 (some .int) ∈ GW := gw_of (List.mem_of_getElem? (i := 1246) (by decide +kernel)) rfl
theorem k_1247 : Cond.methodLink "PulseRemoteModel" 87 ⟨"PulseRemoteModel", "setsLengths", "(IIIIII)V"⟩ ∈ GW := gw_of (List.mem_of_getElem? (i := 1247) (by decide +kernel)) rfl
theorem k_1249 : Cond.instanceMethod ⟨"PulseRemoteModel", "setsLengths", "(IIIIII)V"⟩ ∈ GW := gw_of (List.mem_of_getElem? (i := 1249) (by decide +kernel)) rfl
theorem k_1250 : Cond.code yX12_setsLengths cX12_setsLengths 7 none ∈ GW := gw_of (List.mem_of_getElem? (i := 1250) (by decide +kernel)) rfl
theorem k_1252 : Cond.instanceMethod ⟨"PulseRemoteModel", "setLengths", "(IIIIII)I"⟩ ∈ GW := gw_of (List.mem_of_getElem? (i := 1252) (by decide +kernel)) rfl
theorem k_1253 : Cond.selects "PulseRemoteModel" ⟨"PulseRemoteModel", "setLengths", "(IIIIII)I"⟩ ⟨"PulseRemoteModel", "setLengths", "(IIIIII)I"⟩ ∈ GW := gw_of (List.mem_of_getElem? (i := 1253) (by decide +kernel)) rfl
theorem k_1254 : Cond.code yX12_setLengths cX12_setLengths 8 (some .int) ∈ GW := gw_of (List.mem_of_getElem? (i := 1254) (by decide +kernel)) rfl
theorem k_1255 : Cond.methodLink "PulseRemoteModel" 91 ⟨"PulseRemoteModel", "isProtocol", "(I)Z"⟩ ∈ GW := gw_of (List.mem_of_getElem? (i := 1255) (by decide +kernel)) rfl
theorem k_1257 : Cond.instanceMethod ⟨"PulseRemoteModel", "isProtocol", "(I)Z"⟩ ∈ GW := gw_of (List.mem_of_getElem? (i := 1257) (by decide +kernel)) rfl
theorem k_1258 : Cond.code yX12_isProtocol cX12_isProtocol 2 (some .boolean) ∈ GW := gw_of (List.mem_of_getElem? (i := 1258) (by decide +kernel)) rfl
theorem k_1259 : Cond.methodLink "PulseRemoteModel" 94 ⟨"PulseRemoteModel", "areLengths", "(IIIIII)Z"⟩ ∈ GW := gw_of (List.mem_of_getElem? (i := 1259) (by decide +kernel)) rfl
theorem k_1260 : Cond.static ⟨"PulseRemoteModel", "areLengths", "(IIIIII)Z"⟩ ∈ GW := gw_of (List.mem_of_getElem? (i := 1260) (by decide +kernel)) rfl
theorem k_1261 : Cond.code yX12_areLengths cX12_areLengths 7 (some .boolean) ∈ GW := gw_of (List.mem_of_getElem? (i := 1261) (by decide +kernel)) rfl
theorem k_1262 : Cond.methodLink "PulseRemoteModel" 76 ⟨"PulseRemoteModel", "isLength", "(I)Z"⟩ ∈ GW := gw_of (List.mem_of_getElem? (i := 1262) (by decide +kernel)) rfl
theorem k_1263 : Cond.static ⟨"PulseRemoteModel", "isLength", "(I)Z"⟩ ∈ GW := gw_of (List.mem_of_getElem? (i := 1263) (by decide +kernel)) rfl
theorem k_1264 : Cond.code yX12_isLength cX12_isLength 1 (some .boolean) ∈ GW := gw_of (List.mem_of_getElem? (i := 1264) (by decide +kernel)) rfl
theorem k_1266 : Cond.instanceMethod ⟨"PulseRemoteModel", "protocol", "(II)I"⟩ ∈ GW := gw_of (List.mem_of_getElem? (i := 1266) (by decide +kernel)) rfl
theorem k_1267 : Cond.selects "PulseRemoteModel" ⟨"PulseRemoteModel", "protocol", "(II)I"⟩ ⟨"PulseRemoteModel", "protocol", "(II)I"⟩ ∈ GW := gw_of (List.mem_of_getElem? (i := 1267) (by decide +kernel)) rfl
theorem k_1268 : Cond.code yX12_protocol cX12_protocol 3 (some .int) ∈ GW := gw_of (List.mem_of_getElem? (i := 1268) (by decide +kernel)) rfl
theorem k_1270 : Cond.instanceMethod ⟨"PulseRemoteModel", "count", "(I)I"⟩ ∈ GW := gw_of (List.mem_of_getElem? (i := 1270) (by decide +kernel)) rfl
theorem k_1271 : Cond.selects "PulseRemoteModel" ⟨"PulseRemoteModel", "count", "(I)I"⟩ ⟨"PulseRemoteModel", "count", "(I)I"⟩ ∈ GW := gw_of (List.mem_of_getElem? (i := 1271) (by decide +kernel)) rfl
theorem k_1272 : Cond.code yX12_count cX12_count 2 (some .int) ∈ GW := gw_of (List.mem_of_getElem? (i := 1272) (by decide +kernel)) rfl
theorem k_1274 : Cond.instanceMethod ⟨"PulseRemoteModel", "addButton", "(II)I"⟩ ∈ GW := gw_of (List.mem_of_getElem? (i := 1274) (by decide +kernel)) rfl
theorem k_1275 : Cond.selects "PulseRemoteModel" ⟨"PulseRemoteModel", "addButton", "(II)I"⟩ ⟨"PulseRemoteModel", "addButton", "(II)I"⟩ ∈ GW := gw_of (List.mem_of_getElem? (i := 1275) (by decide +kernel)) rfl
theorem k_1276 : Cond.code yX12_addButton cX12_addButton 3 (some .int) ∈ GW := gw_of (List.mem_of_getElem? (i := 1276) (by decide +kernel)) rfl
theorem k_1277 : Cond.methodLink "PulseRemoteModel" 101 ⟨"PulseRemoteModel", "isCode", "(II)Z"⟩ ∈ GW := gw_of (List.mem_of_getElem? (i := 1277) (by decide +kernel)) rfl
theorem k_1279 : Cond.instanceMethod ⟨"PulseRemoteModel", "isCode", "(II)Z"⟩ ∈ GW := gw_of (List.mem_of_getElem? (i := 1279) (by decide +kernel)) rfl
theorem k_1280 : Cond.code yX12_isCode cX12_isCode 3 (some .boolean) ∈ GW := gw_of (List.mem_of_getElem? (i := 1280) (by decide +kernel)) rfl
theorem k_1281 : Cond.methodLink "PulseRemoteModel" 105 ⟨"PulseRemoteModel", "identity", "(II)I"⟩ ∈ GW := gw_of (List.mem_of_getElem? (i := 1281) (by decide +kernel)) rfl
theorem k_1283 : Cond.instanceMethod ⟨"PulseRemoteModel", "identity", "(II)I"⟩ ∈ GW := gw_of (List.mem_of_getElem? (i := 1283) (by decide +kernel)) rfl
theorem k_1284 : Cond.code yX12_identity cX12_identity 4 (some .int) ∈ GW := gw_of (List.mem_of_getElem? (i := 1284) (by decide +kernel)) rfl
theorem k_1285 : Cond.methodLink "PulseRemoteModel" 109 ⟨"PulseRemoteModel", "buttonOf", "(II)I"⟩ ∈ GW := gw_of (List.mem_of_getElem? (i := 1285) (by decide +kernel)) rfl
theorem k_1287 : Cond.instanceMethod ⟨"PulseRemoteModel", "buttonOf", "(II)I"⟩ ∈ GW := gw_of (List.mem_of_getElem? (i := 1287) (by decide +kernel)) rfl
theorem k_1288 : Cond.code yX12_buttonOf cX12_buttonOf 4 (some .int) ∈ GW := gw_of (List.mem_of_getElem? (i := 1288) (by decide +kernel)) rfl
theorem k_1289 : Cond.methodLink "PulseRemoteModel" 112 ⟨"PulseRemoteModel", "addsButton", "(II)V"⟩ ∈ GW := gw_of (List.mem_of_getElem? (i := 1289) (by decide +kernel)) rfl
theorem k_1291 : Cond.instanceMethod ⟨"PulseRemoteModel", "addsButton", "(II)V"⟩ ∈ GW := gw_of (List.mem_of_getElem? (i := 1291) (by decide +kernel)) rfl
theorem k_1292 : Cond.code yX12_addsButton cX12_addsButton 3 none ∈ GW := gw_of (List.mem_of_getElem? (i := 1292) (by decide +kernel)) rfl
theorem k_1294 : Cond.instanceMethod ⟨"PulseRemoteModel", "button", "(II)I"⟩ ∈ GW := gw_of (List.mem_of_getElem? (i := 1294) (by decide +kernel)) rfl
theorem k_1295 : Cond.selects "PulseRemoteModel" ⟨"PulseRemoteModel", "button", "(II)I"⟩ ⟨"PulseRemoteModel", "button", "(II)I"⟩ ∈ GW := gw_of (List.mem_of_getElem? (i := 1295) (by decide +kernel)) rfl
theorem k_1296 : Cond.code yX12_button cX12_button 3 (some .int) ∈ GW := gw_of (List.mem_of_getElem? (i := 1296) (by decide +kernel)) rfl
theorem k_1298 : Cond.instanceMethod ⟨"PulseRemoteModel", "setGap", "(I)I"⟩ ∈ GW := gw_of (List.mem_of_getElem? (i := 1298) (by decide +kernel)) rfl
theorem k_1299 : Cond.selects "PulseRemoteModel" ⟨"PulseRemoteModel", "setGap", "(I)I"⟩ ⟨"PulseRemoteModel", "setGap", "(I)I"⟩ ∈ GW := gw_of (List.mem_of_getElem? (i := 1299) (by decide +kernel)) rfl
theorem k_1300 : Cond.code yX12_setGap cX12_setGap 2 (some .int) ∈ GW := gw_of (List.mem_of_getElem? (i := 1300) (by decide +kernel)) rfl
theorem k_1301 : Cond.constant "PulseRemoteModel" 116 (60000 : Int32) ∈ GW := gw_of (List.mem_of_getElem? (i := 1301) (by decide +kernel)) rfl
theorem k_1302 : Cond.methodLink "PulseRemoteModel" 117 ⟨"PulseRemoteModel", "sets", "(IIZ)I"⟩ ∈ GW := gw_of (List.mem_of_getElem? (i := 1302) (by decide +kernel)) rfl
theorem k_1304 : Cond.instanceMethod ⟨"PulseRemoteModel", "sets", "(IIZ)I"⟩ ∈ GW := gw_of (List.mem_of_getElem? (i := 1304) (by decide +kernel)) rfl
theorem k_1305 : Cond.code yX12_sets cX12_sets 5 (some .int) ∈ GW := gw_of (List.mem_of_getElem? (i := 1305) (by decide +kernel)) rfl
theorem k_1307 : Cond.instanceMethod ⟨"PulseRemoteModel", "setHold", "(I)I"⟩ ∈ GW := gw_of (List.mem_of_getElem? (i := 1307) (by decide +kernel)) rfl
theorem k_1308 : Cond.selects "PulseRemoteModel" ⟨"PulseRemoteModel", "setHold", "(I)I"⟩ ⟨"PulseRemoteModel", "setHold", "(I)I"⟩ ∈ GW := gw_of (List.mem_of_getElem? (i := 1308) (by decide +kernel)) rfl
theorem k_1309 : Cond.code yX12_setHold cX12_setHold 2 (some .int) ∈ GW := gw_of (List.mem_of_getElem? (i := 1309) (by decide +kernel)) rfl
theorem k_1311 : Cond.instanceMethod ⟨"PulseRemoteModel", "setTolerance", "(I)I"⟩ ∈ GW := gw_of (List.mem_of_getElem? (i := 1311) (by decide +kernel)) rfl
theorem k_1312 : Cond.selects "PulseRemoteModel" ⟨"PulseRemoteModel", "setTolerance", "(I)I"⟩ ⟨"PulseRemoteModel", "setTolerance", "(I)I"⟩ ∈ GW := gw_of (List.mem_of_getElem? (i := 1312) (by decide +kernel)) rfl
theorem k_1313 : Cond.code yX12_setTolerance cX12_setTolerance 2 (some .int) ∈ GW := gw_of (List.mem_of_getElem? (i := 1313) (by decide +kernel)) rfl
theorem k_1315 : Cond.instanceMethod ⟨"PulseRemoteModel", "appendCharacter", "(I)I"⟩ ∈ GW := gw_of (List.mem_of_getElem? (i := 1315) (by decide +kernel)) rfl
theorem k_1316 : Cond.selects "PulseRemoteModel" ⟨"PulseRemoteModel", "appendCharacter", "(I)I"⟩ ⟨"PulseRemoteModel", "appendCharacter", "(I)I"⟩ ∈ GW := gw_of (List.mem_of_getElem? (i := 1316) (by decide +kernel)) rfl
theorem k_1317 : Cond.code yX12_appendCharacter cX12_appendCharacter 2 (some .int) ∈ GW := gw_of (List.mem_of_getElem? (i := 1317) (by decide +kernel)) rfl
theorem k_1319 : Cond.instanceMethod ⟨"PulseRemoteModel", "clearText", "()I"⟩ ∈ GW := gw_of (List.mem_of_getElem? (i := 1319) (by decide +kernel)) rfl
theorem k_1320 : Cond.selects "PulseRemoteModel" ⟨"PulseRemoteModel", "clearText", "()I"⟩ ⟨"PulseRemoteModel", "clearText", "()I"⟩ ∈ GW := gw_of (List.mem_of_getElem? (i := 1320) (by decide +kernel)) rfl
theorem k_1321 : Cond.code yX12_clearText cX12_clearText 2 (some .int) ∈ GW := gw_of (List.mem_of_getElem? (i := 1321) (by decide +kernel)) rfl
theorem k_1323 : Cond.instanceMethod ⟨"PulseRemoteModel", "load", "()I"⟩ ∈ GW := gw_of (List.mem_of_getElem? (i := 1323) (by decide +kernel)) rfl
theorem k_1324 : Cond.selects "PulseRemoteModel" ⟨"PulseRemoteModel", "load", "()I"⟩ ⟨"PulseRemoteModel", "load", "()I"⟩ ∈ GW := gw_of (List.mem_of_getElem? (i := 1324) (by decide +kernel)) rfl
theorem k_1325 : Cond.code yX12_load cX12_load 4 (some .int) ∈ GW := gw_of (List.mem_of_getElem? (i := 1325) (by decide +kernel)) rfl
theorem k_1326 : Cond.methodLink "PulseRemoteModel" 154 ⟨"PulseRemoteModel", "readsToken", "()V"⟩ ∈ GW := gw_of (List.mem_of_getElem? (i := 1326) (by decide +kernel)) rfl
theorem k_1328 : Cond.instanceMethod ⟨"PulseRemoteModel", "readsToken", "()V"⟩ ∈ GW := gw_of (List.mem_of_getElem? (i := 1328) (by decide +kernel)) rfl
theorem k_1329 : Cond.code yX12_readsToken cX12_readsToken 2 none ∈ GW := gw_of (List.mem_of_getElem? (i := 1329) (by decide +kernel)) rfl
theorem k_1330 : Cond.methodLink "PulseRemoteModel" 124 ⟨"PulseRemoteModel", "here", "()I"⟩ ∈ GW := gw_of (List.mem_of_getElem? (i := 1330) (by decide +kernel)) rfl
theorem k_1332 : Cond.instanceMethod ⟨"PulseRemoteModel", "here", "()I"⟩ ∈ GW := gw_of (List.mem_of_getElem? (i := 1332) (by decide +kernel)) rfl
theorem k_1333 : Cond.code yX12_here cX12_here 1 (some .int) ∈ GW := gw_of (List.mem_of_getElem? (i := 1333) (by decide +kernel)) rfl
theorem k_1334 : Cond.constantLong "PulseRemoteModel" 138 (27 : Int64) ∈ GW := gw_of (List.mem_of_getElem? (i := 1334) (by decide +kernel)) rfl
theorem k_1335 : Cond.constantLong "PulseRemoteModel" 140 (97 : Int64) ∈ GW := gw_of (List.mem_of_getElem? (i := 1335) (by decide +kernel)) rfl
theorem k_1336 : Cond.constantLong "PulseRemoteModel" 142 ((-1) : Int64) ∈ GW := gw_of (List.mem_of_getElem? (i := 1336) (by decide +kernel)) rfl
theorem k_1337 : Cond.constantLong "PulseRemoteModel" 144 (100000 : Int64) ∈ GW := gw_of (List.mem_of_getElem? (i := 1337) (by decide +kernel)) rfl
theorem k_1338 : Cond.constantLong "PulseRemoteModel" 146 (10 : Int64) ∈ GW := gw_of (List.mem_of_getElem? (i := 1338) (by decide +kernel)) rfl
theorem k_1339 : Cond.constantLong "PulseRemoteModel" 148 (48 : Int64) ∈ GW := gw_of (List.mem_of_getElem? (i := 1339) (by decide +kernel)) rfl
theorem k_1340 : Cond.constantLong "PulseRemoteModel" 166 (8868840 : Int64) ∈ GW := gw_of (List.mem_of_getElem? (i := 1340) (by decide +kernel)) rfl
theorem k_1341 : Cond.constantLong "PulseRemoteModel" 168 (40266734 : Int64) ∈ GW := gw_of (List.mem_of_getElem? (i := 1341) (by decide +kernel)) rfl
theorem k_1342 : Cond.methodLink "PulseRemoteModel" 157 ⟨"PulseRemoteModel", "takes", "(Z)V"⟩ ∈ GW := gw_of (List.mem_of_getElem? (i := 1342) (by decide +kernel)) rfl
theorem k_1344 : Cond.instanceMethod ⟨"PulseRemoteModel", "takes", "(Z)V"⟩ ∈ GW := gw_of (List.mem_of_getElem? (i := 1344) (by decide +kernel)) rfl
theorem k_1345 : Cond.code yX12_takes cX12_takes 2 none ∈ GW := gw_of (List.mem_of_getElem? (i := 1345) (by decide +kernel)) rfl
theorem k_1346 : Cond.methodLink "PulseRemoteModel" 170 ⟨"PulseRemoteModel", "readsProtocol", "()V"⟩ ∈ GW := gw_of (List.mem_of_getElem? (i := 1346) (by decide +kernel)) rfl
theorem k_1348 : Cond.instanceMethod ⟨"PulseRemoteModel", "readsProtocol", "()V"⟩ ∈ GW := gw_of (List.mem_of_getElem? (i := 1348) (by decide +kernel)) rfl
theorem k_1349 : Cond.code yX12_readsProtocol cX12_readsProtocol 11 none ∈ GW := gw_of (List.mem_of_getElem? (i := 1349) (by decide +kernel)) rfl
theorem k_1350 : Cond.methodLink "PulseRemoteModel" 161 ⟨"PulseRemoteModel", "takesNumber", "(II)I"⟩ ∈ GW := gw_of (List.mem_of_getElem? (i := 1350) (by decide +kernel)) rfl
theorem k_1352 : Cond.instanceMethod ⟨"PulseRemoteModel", "takesNumber", "(II)I"⟩ ∈ GW := gw_of (List.mem_of_getElem? (i := 1352) (by decide +kernel)) rfl
theorem k_1353 : Cond.code yX12_takesNumber cX12_takesNumber 4 (some .int) ∈ GW := gw_of (List.mem_of_getElem? (i := 1353) (by decide +kernel)) rfl
theorem k_1354 : Cond.methodLink "PulseRemoteModel" 173 ⟨"PulseRemoteModel", "readsButton", "()V"⟩ ∈ GW := gw_of (List.mem_of_getElem? (i := 1354) (by decide +kernel)) rfl
theorem k_1356 : Cond.instanceMethod ⟨"PulseRemoteModel", "readsButton", "()V"⟩ ∈ GW := gw_of (List.mem_of_getElem? (i := 1356) (by decide +kernel)) rfl
theorem k_1357 : Cond.code yX12_readsButton cX12_readsButton 5 none ∈ GW := gw_of (List.mem_of_getElem? (i := 1357) (by decide +kernel)) rfl
theorem k_1358 : Cond.constantLong "PulseRemoteModel" 164 (65536 : Int64) ∈ GW := gw_of (List.mem_of_getElem? (i := 1358) (by decide +kernel)) rfl
theorem k_1359 : Cond.methodLink "PulseRemoteModel" 176 ⟨"PulseRemoteModel", "exchanges", "()V"⟩ ∈ GW := gw_of (List.mem_of_getElem? (i := 1359) (by decide +kernel)) rfl
theorem k_1361 : Cond.instanceMethod ⟨"PulseRemoteModel", "exchanges", "()V"⟩ ∈ GW := gw_of (List.mem_of_getElem? (i := 1361) (by decide +kernel)) rfl
theorem k_1362 : Cond.code yX12_exchanges cX12_exchanges 3 none ∈ GW := gw_of (List.mem_of_getElem? (i := 1362) (by decide +kernel)) rfl
theorem k_1364 : Cond.instanceMethod ⟨"PulseRemoteModel", "append", "(II)I"⟩ ∈ GW := gw_of (List.mem_of_getElem? (i := 1364) (by decide +kernel)) rfl
theorem k_1365 : Cond.selects "PulseRemoteModel" ⟨"PulseRemoteModel", "append", "(II)I"⟩ ⟨"PulseRemoteModel", "append", "(II)I"⟩ ∈ GW := gw_of (List.mem_of_getElem? (i := 1365) (by decide +kernel)) rfl
theorem k_1366 : Cond.code yX12_append cX12_append 3 (some .int) ∈ GW := gw_of (List.mem_of_getElem? (i := 1366) (by decide +kernel)) rfl
theorem k_1367 : Cond.methodLink "PulseRemoteModel" 199 ⟨"PulseRemoteModel", "isSlot", "(I)Z"⟩ ∈ GW := gw_of (List.mem_of_getElem? (i := 1367) (by decide +kernel)) rfl
theorem k_1368 : Cond.static ⟨"PulseRemoteModel", "isSlot", "(I)Z"⟩ ∈ GW := gw_of (List.mem_of_getElem? (i := 1368) (by decide +kernel)) rfl
theorem k_1369 : Cond.code yX12_isSlot cX12_isSlot 1 (some .boolean) ∈ GW := gw_of (List.mem_of_getElem? (i := 1369) (by decide +kernel)) rfl
theorem k_1370 : Cond.methodLink "PulseRemoteModel" 196 ⟨"PulseRemoteModel", "trainAt", "(I)I"⟩ ∈ GW := gw_of (List.mem_of_getElem? (i := 1370) (by decide +kernel)) rfl
theorem k_1371 : Cond.static ⟨"PulseRemoteModel", "trainAt", "(I)I"⟩ ∈ GW := gw_of (List.mem_of_getElem? (i := 1371) (by decide +kernel)) rfl
theorem k_1372 : Cond.code yX12_trainAt cX12_trainAt 1 (some .int) ∈ GW := gw_of (List.mem_of_getElem? (i := 1372) (by decide +kernel)) rfl
theorem k_1374 : Cond.instanceMethod ⟨"PulseRemoteModel", "send", "(IIII)I"⟩ ∈ GW := gw_of (List.mem_of_getElem? (i := 1374) (by decide +kernel)) rfl
theorem k_1375 : Cond.selects "PulseRemoteModel" ⟨"PulseRemoteModel", "send", "(IIII)I"⟩ ⟨"PulseRemoteModel", "send", "(IIII)I"⟩ ∈ GW := gw_of (List.mem_of_getElem? (i := 1375) (by decide +kernel)) rfl
theorem k_1376 : Cond.code yX12_send cX12_send 5 (some .int) ∈ GW := gw_of (List.mem_of_getElem? (i := 1376) (by decide +kernel)) rfl
theorem k_1377 : Cond.methodLink "PulseRemoteModel" 202 ⟨"PulseRemoteModel", "makes", "(II)V"⟩ ∈ GW := gw_of (List.mem_of_getElem? (i := 1377) (by decide +kernel)) rfl
theorem k_1379 : Cond.instanceMethod ⟨"PulseRemoteModel", "makes", "(II)V"⟩ ∈ GW := gw_of (List.mem_of_getElem? (i := 1379) (by decide +kernel)) rfl
theorem k_1380 : Cond.code yX12_makes cX12_makes 6 none ∈ GW := gw_of (List.mem_of_getElem? (i := 1380) (by decide +kernel)) rfl
theorem k_1381 : Cond.methodLink "PulseRemoteModel" 186 ⟨"PulseRemoteModel", "lays", "(ZI)V"⟩ ∈ GW := gw_of (List.mem_of_getElem? (i := 1381) (by decide +kernel)) rfl
theorem k_1383 : Cond.instanceMethod ⟨"PulseRemoteModel", "lays", "(ZI)V"⟩ ∈ GW := gw_of (List.mem_of_getElem? (i := 1383) (by decide +kernel)) rfl
theorem k_1384 : Cond.code yX12_lays cX12_lays 3 none ∈ GW := gw_of (List.mem_of_getElem? (i := 1384) (by decide +kernel)) rfl
theorem k_1385 : Cond.methodLink "PulseRemoteModel" 182 ⟨"PulseRemoteModel", "isMark", "()Z"⟩ ∈ GW := gw_of (List.mem_of_getElem? (i := 1385) (by decide +kernel)) rfl
theorem k_1387 : Cond.instanceMethod ⟨"PulseRemoteModel", "isMark", "()Z"⟩ ∈ GW := gw_of (List.mem_of_getElem? (i := 1387) (by decide +kernel)) rfl
theorem k_1388 : Cond.code yX12_isMark cX12_isMark 1 (some .boolean) ∈ GW := gw_of (List.mem_of_getElem? (i := 1388) (by decide +kernel)) rfl
theorem k_1389 : Cond.methodLink "PulseRemoteModel" 190 ⟨"PulseRemoteModel", "bit", "(III)Z"⟩ ∈ GW := gw_of (List.mem_of_getElem? (i := 1389) (by decide +kernel)) rfl
theorem k_1391 : Cond.instanceMethod ⟨"PulseRemoteModel", "bit", "(III)Z"⟩ ∈ GW := gw_of (List.mem_of_getElem? (i := 1391) (by decide +kernel)) rfl
theorem k_1392 : Cond.code yX12_bit cX12_bit 5 (some .boolean) ∈ GW := gw_of (List.mem_of_getElem? (i := 1392) (by decide +kernel)) rfl
theorem k_1393 : Cond.methodLink "PulseRemoteModel" 205 ⟨"PulseRemoteModel", "sends", "(II)I"⟩ ∈ GW := gw_of (List.mem_of_getElem? (i := 1393) (by decide +kernel)) rfl
theorem k_1395 : Cond.instanceMethod ⟨"PulseRemoteModel", "sends", "(II)I"⟩ ∈ GW := gw_of (List.mem_of_getElem? (i := 1395) (by decide +kernel)) rfl
theorem k_1396 : Cond.code yX12_sends cX12_sends 6 (some .int) ∈ GW := gw_of (List.mem_of_getElem? (i := 1396) (by decide +kernel)) rfl
theorem k_1398 : Cond.instanceMethod ⟨"PulseRemoteModel", "sendShort", "(III)I"⟩ ∈ GW := gw_of (List.mem_of_getElem? (i := 1398) (by decide +kernel)) rfl
theorem k_1399 : Cond.selects "PulseRemoteModel" ⟨"PulseRemoteModel", "sendShort", "(III)I"⟩ ⟨"PulseRemoteModel", "sendShort", "(III)I"⟩ ∈ GW := gw_of (List.mem_of_getElem? (i := 1399) (by decide +kernel)) rfl
theorem k_1400 : Cond.code yX12_sendShort cX12_sendShort 4 (some .int) ∈ GW := gw_of (List.mem_of_getElem? (i := 1400) (by decide +kernel)) rfl
theorem k_1401 : Cond.methodLink "PulseRemoteModel" 208 ⟨"PulseRemoteModel", "makesShort", "(I)V"⟩ ∈ GW := gw_of (List.mem_of_getElem? (i := 1401) (by decide +kernel)) rfl
theorem k_1403 : Cond.instanceMethod ⟨"PulseRemoteModel", "makesShort", "(I)V"⟩ ∈ GW := gw_of (List.mem_of_getElem? (i := 1403) (by decide +kernel)) rfl
theorem k_1404 : Cond.code yX12_makesShort cX12_makesShort 2 none ∈ GW := gw_of (List.mem_of_getElem? (i := 1404) (by decide +kernel)) rfl
theorem k_1406 : Cond.instanceMethod ⟨"PulseRemoteModel", "clear", "(I)I"⟩ ∈ GW := gw_of (List.mem_of_getElem? (i := 1406) (by decide +kernel)) rfl
theorem k_1407 : Cond.selects "PulseRemoteModel" ⟨"PulseRemoteModel", "clear", "(I)I"⟩ ⟨"PulseRemoteModel", "clear", "(I)I"⟩ ∈ GW := gw_of (List.mem_of_getElem? (i := 1407) (by decide +kernel)) rfl
theorem k_1408 : Cond.code yX12_clear cX12_clear 3 (some .int) ∈ GW := gw_of (List.mem_of_getElem? (i := 1408) (by decide +kernel)) rfl
theorem k_1410 : Cond.instanceMethod ⟨"PulseRemoteModel", "overlay", "(III)I"⟩ ∈ GW := gw_of (List.mem_of_getElem? (i := 1410) (by decide +kernel)) rfl
theorem k_1411 : Cond.selects "PulseRemoteModel" ⟨"PulseRemoteModel", "overlay", "(III)I"⟩ ⟨"PulseRemoteModel", "overlay", "(III)I"⟩ ∈ GW := gw_of (List.mem_of_getElem? (i := 1411) (by decide +kernel)) rfl
theorem k_1412 : Cond.code yX12_overlay cX12_overlay 6 (some .int) ∈ GW := gw_of (List.mem_of_getElem? (i := 1412) (by decide +kernel)) rfl
theorem k_1413 : Cond.methodLink "PulseRemoteModel" 215 ⟨"PulseRemoteModel", "looksAt", "(I)V"⟩ ∈ GW := gw_of (List.mem_of_getElem? (i := 1413) (by decide +kernel)) rfl
theorem k_1415 : Cond.instanceMethod ⟨"PulseRemoteModel", "looksAt", "(I)V"⟩ ∈ GW := gw_of (List.mem_of_getElem? (i := 1415) (by decide +kernel)) rfl
theorem k_1416 : Cond.code yX12_looksAt cX12_looksAt 3 none ∈ GW := gw_of (List.mem_of_getElem? (i := 1416) (by decide +kernel)) rfl
theorem k_1417 : Cond.methodLink "PulseRemoteModel" 218 ⟨"PulseRemoteModel", "overlays", "(I)V"⟩ ∈ GW := gw_of (List.mem_of_getElem? (i := 1417) (by decide +kernel)) rfl
theorem k_1419 : Cond.instanceMethod ⟨"PulseRemoteModel", "overlays", "(I)V"⟩ ∈ GW := gw_of (List.mem_of_getElem? (i := 1419) (by decide +kernel)) rfl
theorem k_1420 : Cond.code yX12_overlays cX12_overlays 10 none ∈ GW := gw_of (List.mem_of_getElem? (i := 1420) (by decide +kernel)) rfl
theorem k_1422 : Cond.instanceMethod ⟨"PulseRemoteModel", "distort", "(III)I"⟩ ∈ GW := gw_of (List.mem_of_getElem? (i := 1422) (by decide +kernel)) rfl
theorem k_1423 : Cond.selects "PulseRemoteModel" ⟨"PulseRemoteModel", "distort", "(III)I"⟩ ⟨"PulseRemoteModel", "distort", "(III)I"⟩ ∈ GW := gw_of (List.mem_of_getElem? (i := 1423) (by decide +kernel)) rfl
theorem k_1424 : Cond.code yX12_distort cX12_distort 9 (some .int) ∈ GW := gw_of (List.mem_of_getElem? (i := 1424) (by decide +kernel)) rfl
theorem k_1425 : Cond.methodLink "PulseRemoteModel" 221 ⟨"PulseRemoteModel", "floor", "(II)I"⟩ ∈ GW := gw_of (List.mem_of_getElem? (i := 1425) (by decide +kernel)) rfl
theorem k_1426 : Cond.static ⟨"PulseRemoteModel", "floor", "(II)I"⟩ ∈ GW := gw_of (List.mem_of_getElem? (i := 1426) (by decide +kernel)) rfl
theorem k_1427 : Cond.code yX12_floor cX12_floor 2 (some .int) ∈ GW := gw_of (List.mem_of_getElem? (i := 1427) (by decide +kernel)) rfl
theorem k_1429 : Cond.instanceMethod ⟨"PulseRemoteModel", "duration", "(II)I"⟩ ∈ GW := gw_of (List.mem_of_getElem? (i := 1429) (by decide +kernel)) rfl
theorem k_1430 : Cond.selects "PulseRemoteModel" ⟨"PulseRemoteModel", "duration", "(II)I"⟩ ⟨"PulseRemoteModel", "duration", "(II)I"⟩ ∈ GW := gw_of (List.mem_of_getElem? (i := 1430) (by decide +kernel)) rfl
theorem k_1431 : Cond.code yX12_duration cX12_duration 3 (some .int) ∈ GW := gw_of (List.mem_of_getElem? (i := 1431) (by decide +kernel)) rfl
theorem k_1433 : Cond.instanceMethod ⟨"PulseRemoteModel", "length", "(I)I"⟩ ∈ GW := gw_of (List.mem_of_getElem? (i := 1433) (by decide +kernel)) rfl
theorem k_1434 : Cond.selects "PulseRemoteModel" ⟨"PulseRemoteModel", "length", "(I)I"⟩ ⟨"PulseRemoteModel", "length", "(I)I"⟩ ∈ GW := gw_of (List.mem_of_getElem? (i := 1434) (by decide +kernel)) rfl
theorem k_1435 : Cond.code yX12_length cX12_length 2 (some .int) ∈ GW := gw_of (List.mem_of_getElem? (i := 1435) (by decide +kernel)) rfl
theorem k_1437 : Cond.instanceMethod ⟨"PulseRemoteModel", "frameCount", "(I)I"⟩ ∈ GW := gw_of (List.mem_of_getElem? (i := 1437) (by decide +kernel)) rfl
theorem k_1438 : Cond.selects "PulseRemoteModel" ⟨"PulseRemoteModel", "frameCount", "(I)I"⟩ ⟨"PulseRemoteModel", "frameCount", "(I)I"⟩ ∈ GW := gw_of (List.mem_of_getElem? (i := 1438) (by decide +kernel)) rfl
theorem k_1439 : Cond.code yX12_frameCount cX12_frameCount 2 (some .int) ∈ GW := gw_of (List.mem_of_getElem? (i := 1439) (by decide +kernel)) rfl
theorem k_1440 : Cond.methodLink "PulseRemoteModel" 277 ⟨"PulseRemoteModel", "opens", "(I)V"⟩ ∈ GW := gw_of (List.mem_of_getElem? (i := 1440) (by decide +kernel)) rfl
theorem k_1442 : Cond.instanceMethod ⟨"PulseRemoteModel", "opens", "(I)V"⟩ ∈ GW := gw_of (List.mem_of_getElem? (i := 1442) (by decide +kernel)) rfl
theorem k_1443 : Cond.code yX12_opens cX12_opens 2 none ∈ GW := gw_of (List.mem_of_getElem? (i := 1443) (by decide +kernel)) rfl
theorem k_1444 : Cond.methodLink "PulseRemoteModel" 274 ⟨"PulseRemoteModel", "findsFrames", "()V"⟩ ∈ GW := gw_of (List.mem_of_getElem? (i := 1444) (by decide +kernel)) rfl
theorem k_1446 : Cond.instanceMethod ⟨"PulseRemoteModel", "findsFrames", "()V"⟩ ∈ GW := gw_of (List.mem_of_getElem? (i := 1446) (by decide +kernel)) rfl
theorem k_1447 : Cond.code yX12_findsFrames cX12_findsFrames 4 none ∈ GW := gw_of (List.mem_of_getElem? (i := 1447) (by decide +kernel)) rfl
theorem k_1449 : Cond.instanceMethod ⟨"PulseRemoteModel", "frame", "(III)I"⟩ ∈ GW := gw_of (List.mem_of_getElem? (i := 1449) (by decide +kernel)) rfl
theorem k_1450 : Cond.selects "PulseRemoteModel" ⟨"PulseRemoteModel", "frame", "(III)I"⟩ ⟨"PulseRemoteModel", "frame", "(III)I"⟩ ∈ GW := gw_of (List.mem_of_getElem? (i := 1450) (by decide +kernel)) rfl
theorem k_1451 : Cond.code yX12_frame cX12_frame 4 (some .int) ∈ GW := gw_of (List.mem_of_getElem? (i := 1451) (by decide +kernel)) rfl
theorem k_1452 : Cond.methodLink "PulseRemoteModel" 280 ⟨"PulseRemoteModel", "decodes", "(I)Z"⟩ ∈ GW := gw_of (List.mem_of_getElem? (i := 1452) (by decide +kernel)) rfl
theorem k_1454 : Cond.instanceMethod ⟨"PulseRemoteModel", "decodes", "(I)Z"⟩ ∈ GW := gw_of (List.mem_of_getElem? (i := 1454) (by decide +kernel)) rfl
theorem k_1455 : Cond.code yX12_decodes cX12_decodes 4 (some .boolean) ∈ GW := gw_of (List.mem_of_getElem? (i := 1455) (by decide +kernel)) rfl
theorem k_1456 : Cond.methodLink "PulseRemoteModel" 262 ⟨"PulseRemoteModel", "codeOf", "(III)I"⟩ ∈ GW := gw_of (List.mem_of_getElem? (i := 1456) (by decide +kernel)) rfl
theorem k_1458 : Cond.instanceMethod ⟨"PulseRemoteModel", "codeOf", "(III)I"⟩ ∈ GW := gw_of (List.mem_of_getElem? (i := 1458) (by decide +kernel)) rfl
theorem k_1459 : Cond.code yX12_codeOf cX12_codeOf 8 (some .int) ∈ GW := gw_of (List.mem_of_getElem? (i := 1459) (by decide +kernel)) rfl
theorem k_1460 : Cond.methodLink "PulseRemoteModel" 247 ⟨"PulseRemoteModel", "readsPhase", "(III)I"⟩ ∈ GW := gw_of (List.mem_of_getElem? (i := 1460) (by decide +kernel)) rfl
theorem k_1462 : Cond.instanceMethod ⟨"PulseRemoteModel", "readsPhase", "(III)I"⟩ ∈ GW := gw_of (List.mem_of_getElem? (i := 1462) (by decide +kernel)) rfl
theorem k_1463 : Cond.code yX12_readsPhase cX12_readsPhase 9 (some .int) ∈ GW := gw_of (List.mem_of_getElem? (i := 1463) (by decide +kernel)) rfl
theorem k_1464 : Cond.methodLink "PulseRemoteModel" 232 ⟨"PulseRemoteModel", "matches", "(II)Z"⟩ ∈ GW := gw_of (List.mem_of_getElem? (i := 1464) (by decide +kernel)) rfl
theorem k_1466 : Cond.instanceMethod ⟨"PulseRemoteModel", "matches", "(II)Z"⟩ ∈ GW := gw_of (List.mem_of_getElem? (i := 1466) (by decide +kernel)) rfl
theorem k_1467 : Cond.code yX12_matches cX12_matches 4 (some .boolean) ∈ GW := gw_of (List.mem_of_getElem? (i := 1467) (by decide +kernel)) rfl
theorem k_1468 : Cond.constantLong "PulseRemoteModel" 227 (100 : Int64) ∈ GW := gw_of (List.mem_of_getElem? (i := 1468) (by decide +kernel)) rfl
theorem k_1469 : Cond.methodLink "PulseRemoteModel" 235 ⟨"PulseRemoteModel", "isWhole", "(IIIII)Z"⟩ ∈ GW := gw_of (List.mem_of_getElem? (i := 1469) (by decide +kernel)) rfl
theorem k_1471 : Cond.instanceMethod ⟨"PulseRemoteModel", "isWhole", "(IIIII)Z"⟩ ∈ GW := gw_of (List.mem_of_getElem? (i := 1471) (by decide +kernel)) rfl
theorem k_1472 : Cond.code yX12_isWhole cX12_isWhole 6 (some .boolean) ∈ GW := gw_of (List.mem_of_getElem? (i := 1472) (by decide +kernel)) rfl
theorem k_1473 : Cond.methodLink "PulseRemoteModel" 239 ⟨"PulseRemoteModel", "dead", "(III)I"⟩ ∈ GW := gw_of (List.mem_of_getElem? (i := 1473) (by decide +kernel)) rfl
theorem k_1474 : Cond.static ⟨"PulseRemoteModel", "dead", "(III)I"⟩ ∈ GW := gw_of (List.mem_of_getElem? (i := 1474) (by decide +kernel)) rfl
theorem k_1475 : Cond.code yX12_dead cX12_dead 3 (some .int) ∈ GW := gw_of (List.mem_of_getElem? (i := 1475) (by decide +kernel)) rfl
theorem k_1476 : Cond.methodLink "PulseRemoteModel" 243 ⟨"PulseRemoteModel", "goesOn", "(IIIIII)I"⟩ ∈ GW := gw_of (List.mem_of_getElem? (i := 1476) (by decide +kernel)) rfl
theorem k_1478 : Cond.instanceMethod ⟨"PulseRemoteModel", "goesOn", "(IIIIII)I"⟩ ∈ GW := gw_of (List.mem_of_getElem? (i := 1478) (by decide +kernel)) rfl
theorem k_1479 : Cond.code yX12_goesOn cX12_goesOn 9 (some .int) ∈ GW := gw_of (List.mem_of_getElem? (i := 1479) (by decide +kernel)) rfl
theorem k_1480 : Cond.methodLink "PulseRemoteModel" 250 ⟨"PulseRemoteModel", "match", "(III)Z"⟩ ∈ GW := gw_of (List.mem_of_getElem? (i := 1480) (by decide +kernel)) rfl
theorem k_1482 : Cond.instanceMethod ⟨"PulseRemoteModel", "match", "(III)Z"⟩ ∈ GW := gw_of (List.mem_of_getElem? (i := 1482) (by decide +kernel)) rfl
theorem k_1483 : Cond.code yX12_match cX12_match 6 (some .boolean) ∈ GW := gw_of (List.mem_of_getElem? (i := 1483) (by decide +kernel)) rfl
theorem k_1484 : Cond.methodLink "PulseRemoteModel" 253 ⟨"PulseRemoteModel", "readsBits", "(II)I"⟩ ∈ GW := gw_of (List.mem_of_getElem? (i := 1484) (by decide +kernel)) rfl
theorem k_1486 : Cond.instanceMethod ⟨"PulseRemoteModel", "readsBits", "(II)I"⟩ ∈ GW := gw_of (List.mem_of_getElem? (i := 1486) (by decide +kernel)) rfl
theorem k_1487 : Cond.code yX12_readsBits cX12_readsBits 7 (some .int) ∈ GW := gw_of (List.mem_of_getElem? (i := 1487) (by decide +kernel)) rfl
theorem k_1488 : Cond.methodLink "PulseRemoteModel" 256 ⟨"PulseRemoteModel", "ordered", "(II)I"⟩ ∈ GW := gw_of (List.mem_of_getElem? (i := 1488) (by decide +kernel)) rfl
theorem k_1490 : Cond.instanceMethod ⟨"PulseRemoteModel", "ordered", "(II)I"⟩ ∈ GW := gw_of (List.mem_of_getElem? (i := 1490) (by decide +kernel)) rfl
theorem k_1491 : Cond.code yX12_ordered cX12_ordered 7 (some .int) ∈ GW := gw_of (List.mem_of_getElem? (i := 1491) (by decide +kernel)) rfl
theorem k_1492 : Cond.methodLink "PulseRemoteModel" 271 ⟨"PulseRemoteModel", "isShort", "(III)Z"⟩ ∈ GW := gw_of (List.mem_of_getElem? (i := 1492) (by decide +kernel)) rfl
theorem k_1494 : Cond.instanceMethod ⟨"PulseRemoteModel", "isShort", "(III)Z"⟩ ∈ GW := gw_of (List.mem_of_getElem? (i := 1494) (by decide +kernel)) rfl
theorem k_1495 : Cond.code yX12_isShort cX12_isShort 5 (some .boolean) ∈ GW := gw_of (List.mem_of_getElem? (i := 1495) (by decide +kernel)) rfl
theorem k_1497 : Cond.instanceMethod ⟨"PulseRemoteModel", "deviation", "(II)I"⟩ ∈ GW := gw_of (List.mem_of_getElem? (i := 1497) (by decide +kernel)) rfl
theorem k_1498 : Cond.selects "PulseRemoteModel" ⟨"PulseRemoteModel", "deviation", "(II)I"⟩ ⟨"PulseRemoteModel", "deviation", "(II)I"⟩ ∈ GW := gw_of (List.mem_of_getElem? (i := 1498) (by decide +kernel)) rfl
theorem k_1499 : Cond.code yX12_deviation cX12_deviation 8 (some .int) ∈ GW := gw_of (List.mem_of_getElem? (i := 1499) (by decide +kernel)) rfl
theorem k_1500 : Cond.constantLong "PulseRemoteModel" 283 (1000 : Int64) ∈ GW := gw_of (List.mem_of_getElem? (i := 1500) (by decide +kernel)) rfl
theorem k_1502 : Cond.instanceMethod ⟨"PulseRemoteModel", "pressCount", "(I)I"⟩ ∈ GW := gw_of (List.mem_of_getElem? (i := 1502) (by decide +kernel)) rfl
theorem k_1503 : Cond.selects "PulseRemoteModel" ⟨"PulseRemoteModel", "pressCount", "(I)I"⟩ ⟨"PulseRemoteModel", "pressCount", "(I)I"⟩ ∈ GW := gw_of (List.mem_of_getElem? (i := 1503) (by decide +kernel)) rfl
theorem k_1504 : Cond.code yX12_pressCount cX12_pressCount 2 (some .int) ∈ GW := gw_of (List.mem_of_getElem? (i := 1504) (by decide +kernel)) rfl
theorem k_1505 : Cond.methodLink "PulseRemoteModel" 291 ⟨"PulseRemoteModel", "findsPresses", "(I)V"⟩ ∈ GW := gw_of (List.mem_of_getElem? (i := 1505) (by decide +kernel)) rfl
theorem k_1507 : Cond.instanceMethod ⟨"PulseRemoteModel", "findsPresses", "(I)V"⟩ ∈ GW := gw_of (List.mem_of_getElem? (i := 1507) (by decide +kernel)) rfl
theorem k_1508 : Cond.code yX12_findsPresses cX12_findsPresses 10 none ∈ GW := gw_of (List.mem_of_getElem? (i := 1508) (by decide +kernel)) rfl
theorem k_1510 : Cond.instanceMethod ⟨"PulseRemoteModel", "press", "(III)I"⟩ ∈ GW := gw_of (List.mem_of_getElem? (i := 1510) (by decide +kernel)) rfl
theorem k_1511 : Cond.selects "PulseRemoteModel" ⟨"PulseRemoteModel", "press", "(III)I"⟩ ⟨"PulseRemoteModel", "press", "(III)I"⟩ ∈ GW := gw_of (List.mem_of_getElem? (i := 1511) (by decide +kernel)) rfl
theorem k_1512 : Cond.code yX12_press cX12_press 5 (some .int) ∈ GW := gw_of (List.mem_of_getElem? (i := 1512) (by decide +kernel)) rfl
theorem k_1514 : Cond.instanceMethod ⟨"PulseRemoteModel", "strayCount", "(I)I"⟩ ∈ GW := gw_of (List.mem_of_getElem? (i := 1514) (by decide +kernel)) rfl
theorem k_1515 : Cond.selects "PulseRemoteModel" ⟨"PulseRemoteModel", "strayCount", "(I)I"⟩ ⟨"PulseRemoteModel", "strayCount", "(I)I"⟩ ∈ GW := gw_of (List.mem_of_getElem? (i := 1515) (by decide +kernel)) rfl
theorem k_1516 : Cond.code yX12_strayCount cX12_strayCount 2 (some .int) ∈ GW := gw_of (List.mem_of_getElem? (i := 1516) (by decide +kernel)) rfl
theorem k_1518 : Cond.instanceMethod ⟨"PulseRemoteModel", "neededTolerance", "(I)I"⟩ ∈ GW := gw_of (List.mem_of_getElem? (i := 1518) (by decide +kernel)) rfl
theorem k_1519 : Cond.selects "PulseRemoteModel" ⟨"PulseRemoteModel", "neededTolerance", "(I)I"⟩ ⟨"PulseRemoteModel", "neededTolerance", "(I)I"⟩ ∈ GW := gw_of (List.mem_of_getElem? (i := 1519) (by decide +kernel)) rfl
theorem k_1520 : Cond.code yX12_neededTolerance cX12_neededTolerance 5 (some .int) ∈ GW := gw_of (List.mem_of_getElem? (i := 1520) (by decide +kernel)) rfl
theorem k_1522 : Cond.instanceMethod ⟨"PulseRemoteModel", "clusters", "(II)I"⟩ ∈ GW := gw_of (List.mem_of_getElem? (i := 1522) (by decide +kernel)) rfl
theorem k_1523 : Cond.selects "PulseRemoteModel" ⟨"PulseRemoteModel", "clusters", "(II)I"⟩ ⟨"PulseRemoteModel", "clusters", "(II)I"⟩ ∈ GW := gw_of (List.mem_of_getElem? (i := 1523) (by decide +kernel)) rfl
theorem k_1524 : Cond.code yX12_clusters cX12_clusters 3 (some .int) ∈ GW := gw_of (List.mem_of_getElem? (i := 1524) (by decide +kernel)) rfl
theorem k_1525 : Cond.methodLink "PulseRemoteModel" 300 ⟨"PulseRemoteModel", "findsClusters", "(I)V"⟩ ∈ GW := gw_of (List.mem_of_getElem? (i := 1525) (by decide +kernel)) rfl
theorem k_1527 : Cond.instanceMethod ⟨"PulseRemoteModel", "findsClusters", "(I)V"⟩ ∈ GW := gw_of (List.mem_of_getElem? (i := 1527) (by decide +kernel)) rfl
theorem k_1528 : Cond.code yX12_findsClusters cX12_findsClusters 6 none ∈ GW := gw_of (List.mem_of_getElem? (i := 1528) (by decide +kernel)) rfl
theorem k_1530 : Cond.instanceMethod ⟨"PulseRemoteModel", "learn", "(I)I"⟩ ∈ GW := gw_of (List.mem_of_getElem? (i := 1530) (by decide +kernel)) rfl
theorem k_1531 : Cond.selects "PulseRemoteModel" ⟨"PulseRemoteModel", "learn", "(I)I"⟩ ⟨"PulseRemoteModel", "learn", "(I)I"⟩ ∈ GW := gw_of (List.mem_of_getElem? (i := 1531) (by decide +kernel)) rfl
theorem k_1532 : Cond.code yX12_learn cX12_learn 12 (some .int) ∈ GW := gw_of (List.mem_of_getElem? (i := 1532) (by decide +kernel)) rfl
theorem k_1533 : Cond.methodLink "PulseRemoteModel" 303 ⟨"PulseRemoteModel", "meanOf", "(I)I"⟩ ∈ GW := gw_of (List.mem_of_getElem? (i := 1533) (by decide +kernel)) rfl
theorem k_1535 : Cond.instanceMethod ⟨"PulseRemoteModel", "meanOf", "(I)I"⟩ ∈ GW := gw_of (List.mem_of_getElem? (i := 1535) (by decide +kernel)) rfl
theorem k_1536 : Cond.code yX12_meanOf cX12_meanOf 5 (some .int) ∈ GW := gw_of (List.mem_of_getElem? (i := 1536) (by decide +kernel)) rfl
theorem k_1538 : Cond.instanceMethod ⟨"PulseRemoteModel", "explain", "(III)I"⟩ ∈ GW := gw_of (List.mem_of_getElem? (i := 1538) (by decide +kernel)) rfl
theorem k_1539 : Cond.selects "PulseRemoteModel" ⟨"PulseRemoteModel", "explain", "(III)I"⟩ ⟨"PulseRemoteModel", "explain", "(III)I"⟩ ∈ GW := gw_of (List.mem_of_getElem? (i := 1539) (by decide +kernel)) rfl
theorem k_1540 : Cond.code yX12_explain cX12_explain 7 (some .int) ∈ GW := gw_of (List.mem_of_getElem? (i := 1540) (by decide +kernel)) rfl
theorem k_1541 : Cond.methodLink "PulseRemoteModel" 306 ⟨"PulseRemoteModel", "collides", "(III)V"⟩ ∈ GW := gw_of (List.mem_of_getElem? (i := 1541) (by decide +kernel)) rfl
theorem k_1543 : Cond.instanceMethod ⟨"PulseRemoteModel", "collides", "(III)V"⟩ ∈ GW := gw_of (List.mem_of_getElem? (i := 1543) (by decide +kernel)) rfl
theorem k_1544 : Cond.code yX12_collides cX12_collides 5 none ∈ GW := gw_of (List.mem_of_getElem? (i := 1544) (by decide +kernel)) rfl
theorem k_1545 : Cond.methodLink "PulseRemoteModel" 310 ⟨"PulseRemoteModel", "isLike", "(I)Z"⟩ ∈ GW := gw_of (List.mem_of_getElem? (i := 1545) (by decide +kernel)) rfl
theorem k_1547 : Cond.instanceMethod ⟨"PulseRemoteModel", "isLike", "(I)Z"⟩ ∈ GW := gw_of (List.mem_of_getElem? (i := 1547) (by decide +kernel)) rfl
theorem k_1548 : Cond.code yX12_isLike cX12_isLike 4 (some .boolean) ∈ GW := gw_of (List.mem_of_getElem? (i := 1548) (by decide +kernel)) rfl
theorem k_1550 : Cond.instanceMethod ⟨"PulseRemoteModel", "ghosts", "(I)I"⟩ ∈ GW := gw_of (List.mem_of_getElem? (i := 1550) (by decide +kernel)) rfl
theorem k_1551 : Cond.selects "PulseRemoteModel" ⟨"PulseRemoteModel", "ghosts", "(I)I"⟩ ⟨"PulseRemoteModel", "ghosts", "(I)I"⟩ ∈ GW := gw_of (List.mem_of_getElem? (i := 1551) (by decide +kernel)) rfl
theorem k_1552 : Cond.code yX12_ghosts cX12_ghosts 8 (some .int) ∈ GW := gw_of (List.mem_of_getElem? (i := 1552) (by decide +kernel)) rfl
theorem cf0 : CF 0 RX0 TX0 5 tyX0 := ⟨rfl, by decide, rfl, rfl, fun w hw => gw_of ((by decide +kernel : ∀ w ∈ u_ws RX0 TX0 5, w ∈ lw_tbl) w hw) ((by decide +kernel : ∀ w ∈ u_ws RX0 TX0 5, goodWord w = true) w hw), tyX0_ok, nmX0⟩
theorem cf1 : CF 1 RX1 TX1 10 tyX1 := ⟨rfl, by decide, rfl, rfl, fun w hw => gw_of ((by decide +kernel : ∀ w ∈ u_ws RX1 TX1 10, w ∈ lw_tbl) w hw) ((by decide +kernel : ∀ w ∈ u_ws RX1 TX1 10, goodWord w = true) w hw), tyX1_ok, nmX1⟩
theorem cf2 : CF 2 RX2 TX2 6 tyX2 := ⟨rfl, by decide, rfl, rfl, fun w hw => gw_of ((by decide +kernel : ∀ w ∈ u_ws RX2 TX2 6, w ∈ lw_tbl) w hw) ((by decide +kernel : ∀ w ∈ u_ws RX2 TX2 6, goodWord w = true) w hw), tyX2_ok, nmX2⟩
theorem cf3 : CF 3 RX3 TX3 4 tyX3 := ⟨rfl, by decide, rfl, rfl, fun w hw => gw_of ((by decide +kernel : ∀ w ∈ u_ws RX3 TX3 4, w ∈ lw_tbl) w hw) ((by decide +kernel : ∀ w ∈ u_ws RX3 TX3 4, goodWord w = true) w hw), tyX3_ok, nmX3⟩
theorem cf4 : CF 4 RX4 TX4 10 tyX4 := ⟨rfl, by decide, rfl, rfl, fun w hw => gw_of ((by decide +kernel : ∀ w ∈ u_ws RX4 TX4 10, w ∈ lw_tbl) w hw) ((by decide +kernel : ∀ w ∈ u_ws RX4 TX4 10, goodWord w = true) w hw), tyX4_ok, nmX4⟩
theorem cf5 : CF 5 RX5 TX5 8 tyX5 := ⟨rfl, by decide, rfl, rfl, fun w hw => gw_of ((by decide +kernel : ∀ w ∈ u_ws RX5 TX5 8, w ∈ lw_tbl) w hw) ((by decide +kernel : ∀ w ∈ u_ws RX5 TX5 8, goodWord w = true) w hw), tyX5_ok, nmX5⟩
theorem cf6 : CF 6 RX6 TX6 9 tyX6 := ⟨rfl, by decide, rfl, rfl, fun w hw => gw_of ((by decide +kernel : ∀ w ∈ u_ws RX6 TX6 9, w ∈ lw_tbl) w hw) ((by decide +kernel : ∀ w ∈ u_ws RX6 TX6 9, goodWord w = true) w hw), tyX6_ok, nmX6⟩
theorem cf7 : CF 7 RX7 TX7 5 tyX7 := ⟨rfl, by decide, rfl, rfl, fun w hw => gw_of ((by decide +kernel : ∀ w ∈ u_ws RX7 TX7 5, w ∈ lw_tbl) w hw) ((by decide +kernel : ∀ w ∈ u_ws RX7 TX7 5, goodWord w = true) w hw), tyX7_ok, nmX7⟩
theorem cf8 : CF 8 RX8 TX8 5 tyX8 := ⟨rfl, by decide, rfl, rfl, fun w hw => gw_of ((by decide +kernel : ∀ w ∈ u_ws RX8 TX8 5, w ∈ lw_tbl) w hw) ((by decide +kernel : ∀ w ∈ u_ws RX8 TX8 5, goodWord w = true) w hw), tyX8_ok, nmX8⟩
theorem cf9 : CF 9 RX9 TX9 5 tyX9 := ⟨rfl, by decide, rfl, rfl, fun w hw => gw_of ((by decide +kernel : ∀ w ∈ u_ws RX9 TX9 5, w ∈ lw_tbl) w hw) ((by decide +kernel : ∀ w ∈ u_ws RX9 TX9 5, goodWord w = true) w hw), tyX9_ok, nmX9⟩
theorem cf10 : CF 10 RX10 TX10 2 tyX10 := ⟨rfl, by decide, rfl, rfl, fun w hw => gw_of ((by decide +kernel : ∀ w ∈ u_ws RX10 TX10 2, w ∈ lw_tbl) w hw) ((by decide +kernel : ∀ w ∈ u_ws RX10 TX10 2, goodWord w = true) w hw), tyX10_ok, nmX10⟩
theorem cf11 : CF 11 RX11 TX11 12 tyX11 := ⟨rfl, by decide, rfl, rfl, fun w hw => gw_of ((by decide +kernel : ∀ w ∈ u_ws RX11 TX11 12, w ∈ lw_tbl) w hw) ((by decide +kernel : ∀ w ∈ u_ws RX11 TX11 12, goodWord w = true) w hw), tyX11_ok, nmX11⟩
theorem cf12 : CF 12 RX12 TX12 36 tyX12 := ⟨rfl, by decide, rfl, rfl, fun w hw => gw_of ((by decide +kernel : ∀ w ∈ u_ws RX12 TX12 36, w ∈ lw_tbl) w hw) ((by decide +kernel : ∀ w ∈ u_ws RX12 TX12 36, goodWord w = true) w hw), tyX12_ok, nmX12⟩
def rmX11_inRange : Room := { frames := 0, cells := 0, slots := 0, locals := 0 }
theorem cmX11_inRange : CM yX11_inRange cX11_inRange 3 (some .boolean) 3 := ⟨k_508, k_77, by decide +kernel⟩
theorem smX11_inRange : Cond.static yX11_inRange ∈ GW := k_507
def rmX8_protocolsFull : Room := { frames := 0, cells := 0, slots := 0, locals := 0 }
theorem cmX8_protocolsFull : CM yX8_protocolsFull cX8_protocolsFull 1 (some .boolean) 0 := ⟨k_512, k_79, by decide +kernel⟩
theorem imX8_protocolsFull : IM yX8_protocolsFull := ⟨k_510, k_511⟩
def rmX6_useShape : Room := { frames := 0, cells := 0, slots := 0, locals := 0 }
theorem cmX6_useShape : CM yX6_useShape cX6_useShape 5 none 4 := ⟨k_532, k_80, by decide +kernel⟩
theorem imX6_useShape : IM yX6_useShape := ⟨k_530, k_531⟩
def rmX6_useLengths : Room := { frames := 0, cells := 0, slots := 0, locals := 0 }
theorem cmX6_useLengths : CM yX6_useLengths cX6_useLengths 6 none 5 := ⟨k_536, k_80, by decide +kernel⟩
theorem imX6_useLengths : IM yX6_useLengths := ⟨k_534, k_535⟩
def rmX6_copyFrom : Room := { frames := 1, cells := 0, slots := 0, locals := 25 }
theorem cmX6_copyFrom : CM yX6_copyFrom cX6_copyFrom 2 none 1 := ⟨k_528, k_80, by decide +kernel⟩
theorem imX6_copyFrom : IM yX6_copyFrom := ⟨k_526, k_527⟩
def rmX8_copyFrom : Room := { frames := 2, cells := 0, slots := 0, locals := 46 }
theorem cmX8_copyFrom : CM yX8_copyFrom cX8_copyFrom 3 none 1 := ⟨k_524, k_79, by decide +kernel⟩
theorem imX8_copyFrom : IM yX8_copyFrom := ⟨k_522, k_523⟩
def rmX10_copyFrom : Room := { frames := 1, cells := 0, slots := 0, locals := 40 }
theorem cmX10_copyFrom : CM yX10_copyFrom cX10_copyFrom 2 none 1 := ⟨k_543, k_81, by decide +kernel⟩
theorem imX10_copyFrom : IM yX10_copyFrom := ⟨k_541, k_542⟩
def rmX7_copyFrom : Room := { frames := 3, cells := 0, slots := 0, locals := 68 }
theorem cmX7_copyFrom : CM yX7_copyFrom cX7_copyFrom 3 none 1 := ⟨k_520, k_78, by decide +kernel⟩
theorem imX7_copyFrom : IM yX7_copyFrom := ⟨k_518, k_519⟩
def rmX11_saveState : Room := { frames := 4, cells := 0, slots := 0, locals := 90 }
theorem cmX11_saveState : CM yX11_saveState cX11_saveState 3 none 0 := ⟨k_516, k_77, by decide +kernel⟩
theorem imX11_saveState : IM yX11_saveState := ⟨k_515, k_0⟩
def rmX8_protocolAt : Room := { frames := 0, cells := 0, slots := 0, locals := 0 }
theorem cmX8_protocolAt : CM yX8_protocolAt cX8_protocolAt 2 (some (.object "PulseRemote$Protocol")) 1 := ⟨k_558, k_79, by decide +kernel⟩
theorem imX8_protocolAt : IM yX8_protocolAt := ⟨k_556, k_557⟩
def rmX8_newProtocol : Room := { frames := 1, cells := 0, slots := 0, locals := 25 }
theorem cmX8_newProtocol : CM yX8_newProtocol cX8_newProtocol 6 (some .int) 4 := ⟨k_554, k_79, by decide +kernel⟩
theorem imX8_newProtocol : IM yX8_newProtocol := ⟨k_552, k_553⟩
def rmX11_addProtocol : Room := { frames := 5, cells := 0, slots := 0, locals := 112 }
theorem cmX11_addProtocol : CM yX11_addProtocol cX11_addProtocol 5 (some .int) 4 := ⟨k_505, k_77, by decide +kernel⟩
theorem imX11_addProtocol : IM yX11_addProtocol := ⟨k_503, k_504⟩
def rmX8_hasProtocol : Room := { frames := 0, cells := 0, slots := 0, locals := 0 }
theorem cmX8_hasProtocol : CM yX8_hasProtocol cX8_hasProtocol 2 (some .boolean) 1 := ⟨k_568, k_79, by decide +kernel⟩
theorem imX8_hasProtocol : IM yX8_hasProtocol := ⟨k_566, k_567⟩
def rmX11_isLength : Room := { frames := 1, cells := 0, slots := 0, locals := 22 }
theorem cmX11_isLength : CM yX11_isLength cX11_isLength 1 (some .boolean) 1 := ⟨k_575, k_77, by decide +kernel⟩
theorem smX11_isLength : Cond.static yX11_isLength ∈ GW := k_574
def rmX11_lengthsPossible : Room := { frames := 2, cells := 0, slots := 0, locals := 42 }
theorem cmX11_lengthsPossible : CM yX11_lengthsPossible cX11_lengthsPossible 6 (some .boolean) 6 := ⟨k_572, k_77, by decide +kernel⟩
theorem smX11_lengthsPossible : Cond.static yX11_lengthsPossible ∈ GW := k_571
def rmX11_setLengths : Room := { frames := 5, cells := 0, slots := 0, locals := 112 }
theorem cmX11_setLengths : CM yX11_setLengths cX11_setLengths 9 (some .int) 6 := ⟨k_564, k_77, by decide +kernel⟩
theorem imX11_setLengths : IM yX11_setLengths := ⟨k_562, k_563⟩
def rmX11_protocol : Room := { frames := 1, cells := 0, slots := 0, locals := 21 }
theorem cmX11_protocol : CM yX11_protocol cX11_protocol 4 (some .int) 2 := ⟨k_580, k_77, by decide +kernel⟩
theorem imX11_protocol : IM yX11_protocol := ⟨k_578, k_579⟩
def rmX11_count : Room := { frames := 0, cells := 0, slots := 0, locals := 0 }
theorem cmX11_count : CM yX11_count cX11_count 2 (some .int) 1 := ⟨k_584, k_77, by decide +kernel⟩
theorem imX11_count : IM yX11_count := ⟨k_582, k_583⟩
def rmX11_isSlot : Room := { frames := 0, cells := 0, slots := 0, locals := 0 }
theorem cmX11_isSlot : CM yX11_isSlot cX11_isSlot 1 (some .boolean) 1 := ⟨k_591, k_77, by decide +kernel⟩
theorem smX11_isSlot : Cond.static yX11_isSlot ∈ GW := k_590
def rmX7_trainAt : Room := { frames := 1, cells := 0, slots := 0, locals := 20 }
theorem cmX7_trainAt : CM yX7_trainAt cX7_trainAt 2 (some (.object "PulseRemote$Train")) 1 := ⟨k_595, k_78, by decide +kernel⟩
theorem imX7_trainAt : IM yX7_trainAt := ⟨k_593, k_594⟩
def rmX10_endsWithMark : Room := { frames := 0, cells := 0, slots := 0, locals := 0 }
theorem cmX10_endsWithMark : CM yX10_endsWithMark cX10_endsWithMark 1 (some .boolean) 0 := ⟨k_605, k_81, by decide +kernel⟩
theorem imX10_endsWithMark : IM yX10_endsWithMark := ⟨k_603, k_604⟩
def rmX10_at : Room := { frames := 0, cells := 0, slots := 0, locals := 0 }
theorem cmX10_at : CM yX10_at cX10_at 2 (some .int) 1 := ⟨k_609, k_81, by decide +kernel⟩
theorem imX10_at : IM yX10_at := ⟨k_607, k_608⟩
def rmX3_note : Room := { frames := 0, cells := 0, slots := 0, locals := 0 }
theorem cmX3_note : CM yX3_note cX3_note 3 none 2 := ⟨k_613, k_83, by decide +kernel⟩
theorem imX3_note : IM yX3_note := ⟨k_612, k_1⟩
def rmX3_split : Room := { frames := 2, cells := 0, slots := 0, locals := 61 }
theorem cmX3_split : CM yX3_split cX3_split 6 none 2 := ⟨k_600, k_83, by decide +kernel⟩
theorem imX3_split : IM yX3_split := ⟨k_598, k_599⟩
def rmX3_sizeOf : Room := { frames := 0, cells := 0, slots := 0, locals := 0 }
theorem cmX3_sizeOf : CM yX3_sizeOf cX3_sizeOf 2 (some .int) 1 := ⟨k_621, k_83, by decide +kernel⟩
theorem imX3_sizeOf : IM yX3_sizeOf := ⟨k_619, k_620⟩
def rmX0_makeEmpty : Room := { frames := 0, cells := 0, slots := 0, locals := 0 }
theorem cmX0_makeEmpty : CM yX0_makeEmpty cX0_makeEmpty 1 none 0 := ⟨k_625, k_87, by decide +kernel⟩
theorem imX0_makeEmpty : IM yX0_makeEmpty := ⟨k_623, k_624⟩
def rmX3_startOf : Room := { frames := 0, cells := 0, slots := 0, locals := 0 }
theorem cmX3_startOf : CM yX3_startOf cX3_startOf 2 (some .int) 1 := ⟨k_634, k_83, by decide +kernel⟩
theorem imX3_startOf : IM yX3_startOf := ⟨k_632, k_633⟩
def rmX3_durationAt : Room := { frames := 1, cells := 0, slots := 0, locals := 21 }
theorem cmX3_durationAt : CM yX3_durationAt cX3_durationAt 3 (some .int) 2 := ⟨k_629, k_83, by decide +kernel⟩
theorem imX3_durationAt : IM yX3_durationAt := ⟨k_627, k_628⟩
def rmX0_insert : Room := { frames := 0, cells := 0, slots := 0, locals := 0 }
theorem cmX0_insert : CM yX0_insert cX0_insert 3 none 1 := ⟨k_642, k_87, by decide +kernel⟩
theorem imX0_insert : IM yX0_insert := ⟨k_640, k_641⟩
def rmX4_insertAll : Room := { frames := 2, cells := 0, slots := 0, locals := 43 }
theorem cmX4_insertAll : CM yX4_insertAll cX4_insertAll 4 none 2 := ⟨k_638, k_86, by decide +kernel⟩
theorem imX4_insertAll : IM yX4_insertAll := ⟨k_637, k_2⟩
def rmX0_mean : Room := { frames := 1, cells := 0, slots := 0, locals := 21 }
theorem cmX0_mean : CM yX0_mean cX0_mean 5 (some .int) 2 := ⟨k_650, k_87, by decide +kernel⟩
theorem imX0_mean : IM yX0_mean := ⟨k_649, k_3⟩
def rmX0_noteCluster : Room := { frames := 0, cells := 0, slots := 0, locals := 0 }
theorem cmX0_noteCluster : CM yX0_noteCluster cX0_noteCluster 2 none 1 := ⟨k_655, k_87, by decide +kernel⟩
theorem imX0_noteCluster : IM yX0_noteCluster := ⟨k_654, k_4⟩
def rmX0_cut : Room := { frames := 2, cells := 0, slots := 0, locals := 45 }
theorem cmX0_cut : CM yX0_cut cX0_cut 3 none 0 := ⟨k_646, k_87, by decide +kernel⟩
theorem imX0_cut : IM yX0_cut := ⟨k_644, k_645⟩
def rmX4_gather : Room := { frames := 3, cells := 0, slots := 0, locals := 67 }
theorem cmX4_gather : CM yX4_gather cX4_gather 6 (some .boolean) 1 := ⟨k_617, k_86, by decide +kernel⟩
theorem imX4_gather : IM yX4_gather := ⟨k_615, k_616⟩
def rmX4_makeProtocol : Room := { frames := 3, cells := 0, slots := 0, locals := 67 }
theorem cmX4_makeProtocol : CM yX4_makeProtocol cX4_makeProtocol 5 (some .boolean) 4 := ⟨k_663, k_86, by decide +kernel⟩
theorem imX4_makeProtocol : IM yX4_makeProtocol := ⟨k_662, k_5⟩
def rmX4_conclude : Room := { frames := 4, cells := 0, slots := 0, locals := 91 }
theorem cmX4_conclude : CM yX4_conclude cX4_conclude 1 (some .boolean) 0 := ⟨k_659, k_86, by decide +kernel⟩
theorem imX4_conclude : IM yX4_conclude := ⟨k_657, k_658⟩
def rmX11_learn : Room := { frames := 5, cells := 0, slots := 0, locals := 112 }
theorem cmX11_learn : CM yX11_learn cX11_learn 3 (some .int) 1 := ⟨k_588, k_77, by decide +kernel⟩
theorem imX11_learn : IM yX11_learn := ⟨k_586, k_587⟩
def rmX11_clusters : Room := { frames := 4, cells := 0, slots := 0, locals := 92 }
theorem cmX11_clusters : CM yX11_clusters cX11_clusters 3 (some .int) 2 := ⟨k_668, k_77, by decide +kernel⟩
theorem imX11_clusters : IM yX11_clusters := ⟨k_666, k_667⟩
def rmX6_hasCode : Room := { frames := 0, cells := 0, slots := 0, locals := 0 }
theorem cmX6_hasCode : CM yX6_hasCode cX6_hasCode 2 (some .boolean) 1 := ⟨k_676, k_80, by decide +kernel⟩
theorem imX6_hasCode : IM yX6_hasCode := ⟨k_674, k_675⟩
def rmX6_maskAt : Room := { frames := 0, cells := 0, slots := 0, locals := 0 }
theorem cmX6_maskAt : CM yX6_maskAt cX6_maskAt 2 (some .int) 1 := ⟨k_684, k_80, by decide +kernel⟩
theorem imX6_maskAt : IM yX6_maskAt := ⟨k_682, k_683⟩
def rmX6_identityOf : Room := { frames := 1, cells := 0, slots := 0, locals := 21 }
theorem cmX6_identityOf : CM yX6_identityOf cX6_identityOf 2 (some .int) 1 := ⟨k_680, k_80, by decide +kernel⟩
theorem imX6_identityOf : IM yX6_identityOf := ⟨k_678, k_679⟩
def rmX8_hasButton : Room := { frames := 0, cells := 0, slots := 0, locals := 0 }
theorem cmX8_hasButton : CM yX8_hasButton cX8_hasButton 2 (some .boolean) 1 := ⟨k_696, k_79, by decide +kernel⟩
theorem imX8_hasButton : IM yX8_hasButton := ⟨k_694, k_695⟩
def rmX8_protocolOfButton : Room := { frames := 1, cells := 0, slots := 0, locals := 21 }
theorem cmX8_protocolOfButton : CM yX8_protocolOfButton cX8_protocolOfButton 2 (some .int) 1 := ⟨k_692, k_79, by decide +kernel⟩
theorem imX8_protocolOfButton : IM yX8_protocolOfButton := ⟨k_690, k_691⟩
def rmX8_identityOfButton : Room := { frames := 1, cells := 0, slots := 0, locals := 21 }
theorem cmX8_identityOfButton : CM yX8_identityOfButton cX8_identityOfButton 2 (some .int) 1 := ⟨k_700, k_79, by decide +kernel⟩
theorem imX8_identityOfButton : IM yX8_identityOfButton := ⟨k_698, k_699⟩
def rmX8_findButton : Room := { frames := 2, cells := 0, slots := 0, locals := 42 }
theorem cmX8_findButton : CM yX8_findButton cX8_findButton 4 (some .int) 2 := ⟨k_688, k_79, by decide +kernel⟩
theorem imX8_findButton : IM yX8_findButton := ⟨k_686, k_687⟩
def rmX8_buttonsFull : Room := { frames := 0, cells := 0, slots := 0, locals := 0 }
theorem cmX8_buttonsFull : CM yX8_buttonsFull cX8_buttonsFull 1 (some .boolean) 0 := ⟨k_704, k_79, by decide +kernel⟩
theorem imX8_buttonsFull : IM yX8_buttonsFull := ⟨k_702, k_703⟩
def rmX8_newButton : Room := { frames := 1, cells := 0, slots := 0, locals := 21 }
theorem cmX8_newButton : CM yX8_newButton cX8_newButton 3 (some .int) 2 := ⟨k_708, k_79, by decide +kernel⟩
theorem imX8_newButton : IM yX8_newButton := ⟨k_706, k_707⟩
def rmX11_addButton : Room := { frames := 5, cells := 0, slots := 0, locals := 112 }
theorem cmX11_addButton : CM yX11_addButton cX11_addButton 5 (some .int) 2 := ⟨k_672, k_77, by decide +kernel⟩
theorem imX11_addButton : IM yX11_addButton := ⟨k_670, k_671⟩
def rmX11_button : Room := { frames := 2, cells := 0, slots := 0, locals := 42 }
theorem cmX11_button : CM yX11_button cX11_button 3 (some .int) 2 := ⟨k_712, k_77, by decide +kernel⟩
theorem imX11_button : IM yX11_button := ⟨k_710, k_711⟩
def rmX11_setGap : Room := { frames := 5, cells := 0, slots := 0, locals := 112 }
theorem cmX11_setGap : CM yX11_setGap cX11_setGap 3 (some .int) 1 := ⟨k_719, k_77, by decide +kernel⟩
theorem imX11_setGap : IM yX11_setGap := ⟨k_717, k_718⟩
def rmX11_setHold : Room := { frames := 5, cells := 0, slots := 0, locals := 112 }
theorem cmX11_setHold : CM yX11_setHold cX11_setHold 3 (some .int) 1 := ⟨k_724, k_77, by decide +kernel⟩
theorem imX11_setHold : IM yX11_setHold := ⟨k_722, k_723⟩
def rmX11_setTolerance : Room := { frames := 5, cells := 0, slots := 0, locals := 112 }
theorem cmX11_setTolerance : CM yX11_setTolerance cX11_setTolerance 3 (some .int) 1 := ⟨k_728, k_77, by decide +kernel⟩
theorem imX11_setTolerance : IM yX11_setTolerance := ⟨k_726, k_727⟩
def rmX9_put : Room := { frames := 0, cells := 0, slots := 0, locals := 0 }
theorem cmX9_put : CM yX9_put cX9_put 2 none 1 := ⟨k_736, k_82, by decide +kernel⟩
theorem imX9_put : IM yX9_put := ⟨k_734, k_735⟩
def rmX11_appendCharacter : Room := { frames := 1, cells := 0, slots := 0, locals := 22 }
theorem cmX11_appendCharacter : CM yX11_appendCharacter cX11_appendCharacter 2 (some .int) 1 := ⟨k_732, k_77, by decide +kernel⟩
theorem imX11_appendCharacter : IM yX11_appendCharacter := ⟨k_730, k_731⟩
def rmX11_clearText : Room := { frames := 0, cells := 0, slots := 0, locals := 0 }
theorem cmX11_clearText : CM yX11_clearText cX11_clearText 2 (some .int) 0 := ⟨k_740, k_77, by decide +kernel⟩
theorem imX11_clearText : IM yX11_clearText := ⟨k_738, k_739⟩
def rmX8_makeEmpty : Room := { frames := 0, cells := 0, slots := 0, locals := 0 }
theorem cmX8_makeEmpty : CM yX8_makeEmpty cX8_makeEmpty 1 none 0 := ⟨k_752, k_79, by decide +kernel⟩
theorem imX8_makeEmpty : IM yX8_makeEmpty := ⟨k_750, k_751⟩
def rmX9_at : Room := { frames := 0, cells := 0, slots := 0, locals := 0 }
theorem cmX9_at : CM yX9_at cX9_at 2 (some .char) 1 := ⟨k_760, k_82, by decide +kernel⟩
theorem imX9_at : IM yX9_at := ⟨k_759, k_7⟩
def rmX9_kindAt : Room := { frames := 0, cells := 0, slots := 0, locals := 0 }
theorem cmX9_kindAt : CM yX9_kindAt cX9_kindAt 3 (some .int) 1 := ⟨k_764, k_82, by decide +kernel⟩
theorem imX9_kindAt : IM yX9_kindAt := ⟨k_763, k_8⟩
def rmX9_takeToken : Room := { frames := 1, cells := 0, slots := 0, locals := 22 }
theorem cmX9_takeToken : CM yX9_takeToken cX9_takeToken 1 none 0 := ⟨k_756, k_82, by decide +kernel⟩
theorem imX9_takeToken : IM yX9_takeToken := ⟨k_755, k_6⟩
def rmX9_isWord : Room := { frames := 4, cells := 0, slots := 0, locals := 110 }
theorem cmX9_isWord : CM yX9_isWord cX9_isWord 3 (some .boolean) 1 := ⟨k_773, k_82, by decide +kernel⟩
theorem imX9_isWord : IM yX9_isWord := ⟨k_772, k_10⟩
def rmX9_readNumber : Room := { frames := 2, cells := 0, slots := 0, locals := 42 }
theorem cmX9_readNumber : CM yX9_readNumber cX9_readNumber 6 (some .int) 2 := ⟨k_830, k_82, by decide +kernel⟩
theorem imX9_readNumber : IM yX9_readNumber := ⟨k_829, k_12⟩
def rmX9_readEnd : Room := { frames := 2, cells := 0, slots := 0, locals := 42 }
theorem cmX9_readEnd : CM yX9_readEnd cX9_readEnd 1 (some .boolean) 0 := ⟨k_836, k_82, by decide +kernel⟩
theorem imX9_readEnd : IM yX9_readEnd := ⟨k_835, k_13⟩
def rmX9_readProtocol : Room := { frames := 3, cells := 0, slots := 0, locals := 67 }
theorem cmX9_readProtocol : CM yX9_readProtocol cX9_readProtocol 14 (some .boolean) 1 := ⟨k_826, k_82, by decide +kernel⟩
theorem imX9_readProtocol : IM yX9_readProtocol := ⟨k_825, k_11⟩
def rmX9_readButton : Room := { frames := 3, cells := 0, slots := 0, locals := 67 }
theorem cmX9_readButton : CM yX9_readButton cX9_readButton 6 (some .boolean) 1 := ⟨k_845, k_82, by decide +kernel⟩
theorem imX9_readButton : IM yX9_readButton := ⟨k_844, k_14⟩
def rmX9_readItem : Room := { frames := 5, cells := 0, slots := 0, locals := 132 }
theorem cmX9_readItem : CM yX9_readItem cX9_readItem 2 (some .boolean) 1 := ⟨k_768, k_82, by decide +kernel⟩
theorem imX9_readItem : IM yX9_readItem := ⟨k_767, k_9⟩
def rmX9_readTable : Room := { frames := 6, cells := 0, slots := 0, locals := 153 }
theorem cmX9_readTable : CM yX9_readTable cX9_readTable 3 (some .int) 1 := ⟨k_748, k_82, by decide +kernel⟩
theorem imX9_readTable : IM yX9_readTable := ⟨k_746, k_747⟩
def rmX11_load : Room := { frames := 7, cells := 0, slots := 0, locals := 175 }
theorem cmX11_load : CM yX11_load cX11_load 2 (some .int) 0 := ⟨k_744, k_77, by decide +kernel⟩
theorem imX11_load : IM yX11_load := ⟨k_742, k_743⟩
def rmX10_put : Room := { frames := 0, cells := 0, slots := 0, locals := 0 }
theorem cmX10_put : CM yX10_put cX10_put 2 none 1 := ⟨k_858, k_81, by decide +kernel⟩
theorem imX10_put : IM yX10_put := ⟨k_856, k_857⟩
def rmX11_append : Room := { frames := 5, cells := 0, slots := 0, locals := 112 }
theorem cmX11_append : CM yX11_append cX11_append 4 (some .int) 2 := ⟨k_854, k_77, by decide +kernel⟩
theorem imX11_append : IM yX11_append := ⟨k_852, k_853⟩
def rmX10_join : Room := { frames := 1, cells := 0, slots := 0, locals := 21 }
theorem cmX10_join : CM yX10_join cX10_join 3 none 2 := ⟨k_875, k_81, by decide +kernel⟩
theorem imX10_join : IM yX10_join := ⟨k_873, k_874⟩
def rmX6_writeBit : Room := { frames := 2, cells := 0, slots := 0, locals := 43 }
theorem cmX6_writeBit : CM yX6_writeBit cX6_writeBit 4 none 3 := ⟨k_871, k_80, by decide +kernel⟩
theorem imX6_writeBit : IM yX6_writeBit := ⟨k_870, k_15⟩
def rmX6_writeFrame : Room := { frames := 3, cells := 0, slots := 0, locals := 66 }
theorem cmX6_writeFrame : CM yX6_writeFrame cX6_writeFrame 4 none 2 := ⟨k_866, k_80, by decide +kernel⟩
theorem imX6_writeFrame : IM yX6_writeFrame := ⟨k_864, k_865⟩
def rmX11_appendScratch : Room := { frames := 5, cells := 0, slots := 0, locals := 112 }
theorem cmX11_appendScratch : CM yX11_appendScratch cX11_appendScratch 5 (some .int) 2 := ⟨k_882, k_77, by decide +kernel⟩
theorem imX11_appendScratch : IM yX11_appendScratch := ⟨k_881, k_16⟩
def rmX11_send : Room := { frames := 6, cells := 0, slots := 0, locals := 136 }
theorem cmX11_send : CM yX11_send cX11_send 5 (some .int) 4 := ⟨k_862, k_77, by decide +kernel⟩
theorem imX11_send : IM yX11_send := ⟨k_860, k_861⟩
def rmX6_writeShortFrame : Room := { frames := 1, cells := 0, slots := 0, locals := 21 }
theorem cmX6_writeShortFrame : CM yX6_writeShortFrame cX6_writeShortFrame 2 none 1 := ⟨k_892, k_80, by decide +kernel⟩
theorem imX6_writeShortFrame : IM yX6_writeShortFrame := ⟨k_890, k_891⟩
def rmX11_sendShort : Room := { frames := 6, cells := 0, slots := 0, locals := 136 }
theorem cmX11_sendShort : CM yX11_sendShort cX11_sendShort 4 (some .int) 3 := ⟨k_888, k_77, by decide +kernel⟩
theorem imX11_sendShort : IM yX11_sendShort := ⟨k_886, k_887⟩
def rmX11_clear : Room := { frames := 5, cells := 0, slots := 0, locals := 112 }
theorem cmX11_clear : CM yX11_clear cX11_clear 4 (some .int) 1 := ⟨k_896, k_77, by decide +kernel⟩
theorem imX11_clear : IM yX11_clear := ⟨k_894, k_895⟩
def rmX1_lay : Room := { frames := 2, cells := 0, slots := 0, locals := 61 }
theorem cmX1_lay : CM yX1_lay cX1_lay 3 none 2 := ⟨k_904, k_88, by decide +kernel⟩
theorem imX1_lay : IM yX1_lay := ⟨k_902, k_903⟩
def rmX1_takeMark : Room := { frames := 1, cells := 0, slots := 0, locals := 21 }
theorem cmX1_takeMark : CM yX1_takeMark cX1_takeMark 3 none 0 := ⟨k_913, k_88, by decide +kernel⟩
theorem imX1_takeMark : IM yX1_takeMark := ⟨k_912, k_17⟩
def rmX1_begin : Room := { frames := 2, cells := 0, slots := 0, locals := 43 }
theorem cmX1_begin : CM yX1_begin cX1_begin 2 none 1 := ⟨k_909, k_88, by decide +kernel⟩
theorem imX1_begin : IM yX1_begin := ⟨k_907, k_908⟩
def rmX1_nextDuration : Room := { frames := 2, cells := 0, slots := 0, locals := 43 }
theorem cmX1_nextDuration : CM yX1_nextDuration cX1_nextDuration 4 (some .int) 0 := ⟨k_922, k_88, by decide +kernel⟩
theorem imX1_nextDuration : IM yX1_nextDuration := ⟨k_920, k_921⟩
def rmX1_writeTo : Room := { frames := 3, cells := 0, slots := 0, locals := 66 }
theorem cmX1_writeTo : CM yX1_writeTo cX1_writeTo 4 (some .boolean) 1 := ⟨k_918, k_88, by decide +kernel⟩
theorem imX1_writeTo : IM yX1_writeTo := ⟨k_916, k_917⟩
def rmX10_longest : Room := { frames := 1, cells := 0, slots := 0, locals := 21 }
theorem cmX10_longest : CM yX10_longest cX10_longest 3 (some .int) 0 := ⟨k_928, k_81, by decide +kernel⟩
theorem imX10_longest : IM yX10_longest := ⟨k_926, k_927⟩
def rmX11_overlay : Room := { frames := 5, cells := 0, slots := 0, locals := 112 }
theorem cmX11_overlay : CM yX11_overlay cX11_overlay 6 (some .int) 3 := ⟨k_900, k_77, by decide +kernel⟩
theorem imX11_overlay : IM yX11_overlay := ⟨k_898, k_899⟩
def rmX10_stretch : Room := { frames := 1, cells := 0, slots := 0, locals := 21 }
theorem cmX10_stretch : CM yX10_stretch cX10_stretch 6 (some .int) 1 := ⟨k_938, k_81, by decide +kernel⟩
theorem imX10_stretch : IM yX10_stretch := ⟨k_936, k_937⟩
def rmX11_distort : Room := { frames := 5, cells := 0, slots := 0, locals := 112 }
theorem cmX11_distort : CM yX11_distort cX11_distort 4 (some .int) 3 := ⟨k_934, k_77, by decide +kernel⟩
theorem imX11_distort : IM yX11_distort := ⟨k_932, k_933⟩
def rmX11_duration : Room := { frames := 2, cells := 0, slots := 0, locals := 41 }
theorem cmX11_duration : CM yX11_duration cX11_duration 4 (some .int) 2 := ⟨k_943, k_77, by decide +kernel⟩
theorem imX11_duration : IM yX11_duration := ⟨k_941, k_942⟩
def rmX11_length : Room := { frames := 2, cells := 0, slots := 0, locals := 41 }
theorem cmX11_length : CM yX11_length cX11_length 2 (some .int) 1 := ⟨k_947, k_77, by decide +kernel⟩
theorem imX11_length : IM yX11_length := ⟨k_945, k_946⟩
def rmX11_frameCount : Room := { frames := 3, cells := 0, slots := 0, locals := 86 }
theorem cmX11_frameCount : CM yX11_frameCount cX11_frameCount 2 (some .int) 1 := ⟨k_951, k_77, by decide +kernel⟩
theorem imX11_frameCount : IM yX11_frameCount := ⟨k_949, k_950⟩
def rmX2_take : Room := { frames := 2, cells := 0, slots := 0, locals := 43 }
theorem cmX2_take : CM yX2_take cX2_take 4 (some .boolean) 2 := ⟨k_965, k_84, by decide +kernel⟩
theorem imX2_take : IM yX2_take := ⟨k_964, k_18⟩
def rmX11_matches : Room := { frames := 0, cells := 0, slots := 0, locals := 0 }
theorem cmX11_matches : CM yX11_matches cX11_matches 4 (some .boolean) 3 := ⟨k_979, k_77, by decide +kernel⟩
theorem smX11_matches : Cond.static yX11_matches ∈ GW := k_978
def rmX2_fits : Room := { frames := 1, cells := 0, slots := 0, locals := 23 }
theorem cmX2_fits : CM yX2_fits cX2_fits 3 (some .boolean) 2 := ⟨k_976, k_84, by decide +kernel⟩
theorem imX2_fits : IM yX2_fits := ⟨k_975, k_20⟩
def rmX2_placesOf : Room := { frames := 2, cells := 0, slots := 0, locals := 45 }
theorem cmX2_placesOf : CM yX2_placesOf cX2_placesOf 5 (some .long) 1 := ⟨k_983, k_84, by decide +kernel⟩
theorem imX2_placesOf : IM yX2_placesOf := ⟨k_982, k_21⟩
def rmX2_isIn : Room := { frames := 0, cells := 0, slots := 0, locals := 0 }
theorem cmX2_isIn : CM yX2_isIn cX2_isIn 3 (some .boolean) 2 := ⟨k_987, k_84, by decide +kernel⟩
theorem smX2_isIn : Cond.static yX2_isIn ∈ GW := k_986
def rmX2_restOfPhaseCode : Room := { frames := 1, cells := 0, slots := 0, locals := 22 }
theorem cmX2_restOfPhaseCode : CM yX2_restOfPhaseCode cX2_restOfPhaseCode 12 (some .int) 4 := ⟨k_991, k_84, by decide +kernel⟩
theorem imX2_restOfPhaseCode : IM yX2_restOfPhaseCode := ⟨k_990, k_22⟩
def rmX2_phaseCode : Room := { frames := 3, cells := 0, slots := 0, locals := 69 }
theorem cmX2_phaseCode : CM yX2_phaseCode cX2_phaseCode 11 (some .int) 1 := ⟨k_972, k_84, by decide +kernel⟩
theorem imX2_phaseCode : IM yX2_phaseCode := ⟨k_971, k_19⟩
def rmX2_plainCode : Room := { frames := 2, cells := 0, slots := 0, locals := 45 }
theorem cmX2_plainCode : CM yX2_plainCode cX2_plainCode 6 (some .int) 1 := ⟨k_996, k_84, by decide +kernel⟩
theorem imX2_plainCode : IM yX2_plainCode := ⟨k_995, k_23⟩
def rmX2_protocolOfShortFrame : Room := { frames := 2, cells := 0, slots := 0, locals := 45 }
theorem cmX2_protocolOfShortFrame : CM yX2_protocolOfShortFrame cX2_protocolOfShortFrame 4 (some .int) 1 := ⟨k_1000, k_84, by decide +kernel⟩
theorem imX2_protocolOfShortFrame : IM yX2_protocolOfShortFrame := ⟨k_999, k_24⟩
def rmX2_decode : Room := { frames := 4, cells := 0, slots := 0, locals := 99 }
theorem cmX2_decode : CM yX2_decode cX2_decode 7 none 4 := ⟨k_961, k_84, by decide +kernel⟩
theorem imX2_decode : IM yX2_decode := ⟨k_959, k_960⟩
def rmX2_isDecoded : Room := { frames := 0, cells := 0, slots := 0, locals := 0 }
theorem cmX2_isDecoded : CM yX2_isDecoded cX2_isDecoded 1 (some .boolean) 0 := ⟨k_1004, k_84, by decide +kernel⟩
theorem imX2_isDecoded : IM yX2_isDecoded := ⟨k_1002, k_1003⟩
def rmX2_isCode : Room := { frames := 0, cells := 0, slots := 0, locals := 0 }
theorem cmX2_isCode : CM yX2_isCode cX2_isCode 1 (some .boolean) 0 := ⟨k_1008, k_84, by decide +kernel⟩
theorem imX2_isCode : IM yX2_isCode := ⟨k_1006, k_1007⟩
def rmX11_frame : Room := { frames := 5, cells := 0, slots := 0, locals := 125 }
theorem cmX11_frame : CM yX11_frame cX11_frame 4 (some .int) 3 := ⟨k_955, k_77, by decide +kernel⟩
theorem imX11_frame : IM yX11_frame := ⟨k_953, k_954⟩
def rmX11_worstDeviation : Room := { frames := 2, cells := 0, slots := 0, locals := 43 }
theorem cmX11_worstDeviation : CM yX11_worstDeviation cX11_worstDeviation 6 (some .int) 2 := ⟨k_1016, k_77, by decide +kernel⟩
theorem imX11_worstDeviation : IM yX11_worstDeviation := ⟨k_1015, k_25⟩
def rmX11_deviation : Room := { frames := 5, cells := 0, slots := 0, locals := 125 }
theorem cmX11_deviation : CM yX11_deviation cX11_deviation 4 (some .int) 2 := ⟨k_1012, k_77, by decide +kernel⟩
theorem imX11_deviation : IM yX11_deviation := ⟨k_1010, k_1011⟩
def rmX3_spaceBefore : Room := { frames := 1, cells := 0, slots := 0, locals := 21 }
theorem cmX3_spaceBefore : CM yX3_spaceBefore cX3_spaceBefore 2 (some .int) 1 := ⟨k_1036, k_83, by decide +kernel⟩
theorem imX3_spaceBefore : IM yX3_spaceBefore := ⟨k_1034, k_1035⟩
def rmX5_continuesLatest : Room := { frames := 1, cells := 0, slots := 0, locals := 21 }
theorem cmX5_continuesLatest : CM yX5_continuesLatest cX5_continuesLatest 3 (some .boolean) 2 := ⟨k_1040, k_85, by decide +kernel⟩
theorem imX5_continuesLatest : IM yX5_continuesLatest := ⟨k_1039, k_26⟩
def rmX5_countLatest : Room := { frames := 0, cells := 0, slots := 0, locals := 0 }
theorem cmX5_countLatest : CM yX5_countLatest cX5_countLatest 1 none 0 := ⟨k_1047, k_85, by decide +kernel⟩
theorem imX5_countLatest : IM yX5_countLatest := ⟨k_1046, k_27⟩
def rmX5_begin : Room := { frames := 0, cells := 0, slots := 0, locals := 0 }
theorem cmX5_begin : CM yX5_begin cX5_begin 2 none 1 := ⟨k_1051, k_85, by decide +kernel⟩
theorem imX5_begin : IM yX5_begin := ⟨k_1050, k_28⟩
def rmX5_find : Room := { frames := 5, cells := 0, slots := 0, locals := 125 }
theorem cmX5_find : CM yX5_find cX5_find 8 none 4 := ⟨k_1029, k_85, by decide +kernel⟩
theorem imX5_find : IM yX5_find := ⟨k_1027, k_1028⟩
def rmX11_pressCount : Room := { frames := 6, cells := 0, slots := 0, locals := 152 }
theorem cmX11_pressCount : CM yX11_pressCount cX11_pressCount 2 (some .int) 1 := ⟨k_1025, k_77, by decide +kernel⟩
theorem imX11_pressCount : IM yX11_pressCount := ⟨k_1023, k_1024⟩
def rmX8_findButtonOf : Room := { frames := 3, cells := 0, slots := 0, locals := 65 }
theorem cmX8_findButtonOf : CM yX8_findButtonOf cX8_findButtonOf 3 (some .int) 2 := ⟨k_1059, k_79, by decide +kernel⟩
theorem imX8_findButtonOf : IM yX8_findButtonOf := ⟨k_1057, k_1058⟩
def rmX11_press : Room := { frames := 6, cells := 0, slots := 0, locals := 152 }
theorem cmX11_press : CM yX11_press cX11_press 4 (some .int) 3 := ⟨k_1055, k_77, by decide +kernel⟩
theorem imX11_press : IM yX11_press := ⟨k_1053, k_1054⟩
def rmX11_strayCount : Room := { frames := 6, cells := 0, slots := 0, locals := 152 }
theorem cmX11_strayCount : CM yX11_strayCount cX11_strayCount 2 (some .int) 1 := ⟨k_1065, k_77, by decide +kernel⟩
theorem imX11_strayCount : IM yX11_strayCount := ⟨k_1063, k_1064⟩
def rmX11_toleranceFor : Room := { frames := 5, cells := 0, slots := 0, locals := 125 }
theorem cmX11_toleranceFor : CM yX11_toleranceFor cX11_toleranceFor 4 (some .int) 2 := ⟨k_1073, k_77, by decide +kernel⟩
theorem imX11_toleranceFor : IM yX11_toleranceFor := ⟨k_1072, k_29⟩
def rmX11_neededTolerance : Room := { frames := 6, cells := 0, slots := 0, locals := 148 }
theorem cmX11_neededTolerance : CM yX11_neededTolerance cX11_neededTolerance 4 (some .int) 1 := ⟨k_1069, k_77, by decide +kernel⟩
theorem imX11_neededTolerance : IM yX11_neededTolerance := ⟨k_1067, k_1068⟩
def rmX11_buttonFrameAt : Room := { frames := 0, cells := 0, slots := 0, locals := 0 }
theorem cmX11_buttonFrameAt : CM yX11_buttonFrameAt cX11_buttonFrameAt 2 (some (.object "PulseRemote$Train")) 1 := ⟨k_1085, k_77, by decide +kernel⟩
theorem imX11_buttonFrameAt : IM yX11_buttonFrameAt := ⟨k_1084, k_31⟩
def rmX11_writeButtonFrames : Room := { frames := 4, cells := 0, slots := 0, locals := 89 }
theorem cmX11_writeButtonFrames : CM yX11_writeButtonFrames cX11_writeButtonFrames 4 none 0 := ⟨k_1081, k_77, by decide +kernel⟩
theorem imX11_writeButtonFrames : IM yX11_writeButtonFrames := ⟨k_1080, k_30⟩
def rmX11_isCollision : Room := { frames := 3, cells := 0, slots := 0, locals := 66 }
theorem cmX11_isCollision : CM yX11_isCollision cX11_isCollision 4 (some .boolean) 2 := ⟨k_1093, k_77, by decide +kernel⟩
theorem imX11_isCollision : IM yX11_isCollision := ⟨k_1092, k_33⟩
def rmX11_explainingOffset : Room := { frames := 4, cells := 0, slots := 0, locals := 89 }
theorem cmX11_explainingOffset : CM yX11_explainingOffset cX11_explainingOffset 6 (some .int) 4 := ⟨k_1089, k_77, by decide +kernel⟩
theorem imX11_explainingOffset : IM yX11_explainingOffset := ⟨k_1088, k_32⟩
def rmX11_explain : Room := { frames := 5, cells := 0, slots := 0, locals := 114 }
theorem cmX11_explain : CM yX11_explain cX11_explain 9 (some .int) 3 := ⟨k_1077, k_77, by decide +kernel⟩
theorem imX11_explain : IM yX11_explain := ⟨k_1075, k_1076⟩
def rmX11_showsGhost : Room := { frames := 5, cells := 0, slots := 0, locals := 125 }
theorem cmX11_showsGhost : CM yX11_showsGhost cX11_showsGhost 6 (some .boolean) 3 := ⟨k_1103, k_77, by decide +kernel⟩
theorem imX11_showsGhost : IM yX11_showsGhost := ⟨k_1102, k_34⟩
def rmX11_ghosts : Room := { frames := 6, cells := 0, slots := 0, locals := 150 }
theorem cmX11_ghosts : CM yX11_ghosts cX11_ghosts 6 (some .int) 1 := ⟨k_1099, k_77, by decide +kernel⟩
theorem imX11_ghosts : IM yX11_ghosts := ⟨k_1097, k_1098⟩
def rmX11_undo : Room := { frames := 0, cells := 0, slots := 0, locals := 0 }
theorem cmX11_undo : CM yX11_undo cX11_undo 2 (some .int) 0 := ⟨k_1107, k_77, by decide +kernel⟩
theorem imX11_undo : IM yX11_undo := ⟨k_1105, k_1106⟩
def rmX12_in : Room := { frames := 0, cells := 0, slots := 0, locals := 0 }
theorem cmX12_in : CM yX12_in cX12_in 3 (some .boolean) 3 := ⟨k_1235, k_89, by decide +kernel⟩
theorem smX12_in : Cond.static yX12_in ∈ GW := k_1234
def rmX12_note : Room := { frames := 0, cells := 0, slots := 0, locals := 0 }
theorem cmX12_note : CM yX12_note cX12_note 2 none 0 := ⟨k_1239, k_89, by decide +kernel⟩
theorem imX12_note : IM yX12_note := ⟨k_1238, k_35⟩
def rmX12_undo : Room := { frames := 0, cells := 0, slots := 0, locals := 0 }
theorem cmX12_undo : CM yX12_undo cX12_undo 2 (some .int) 0 := ⟨k_1228, k_89, by decide +kernel⟩
theorem imX12_undo : IM yX12_undo := ⟨k_1226, k_1227⟩
def rmX12_isSlot : Room := { frames := 1, cells := 0, slots := 0, locals := 22 }
theorem cmX12_isSlot : CM yX12_isSlot cX12_isSlot 1 (some .boolean) 1 := ⟨k_1369, k_89, by decide +kernel⟩
theorem smX12_isSlot : Cond.static yX12_isSlot ∈ GW := k_1368
def rmX12_isProtocol : Room := { frames := 1, cells := 0, slots := 0, locals := 22 }
theorem cmX12_isProtocol : CM yX12_isProtocol cX12_isProtocol 2 (some .boolean) 1 := ⟨k_1258, k_89, by decide +kernel⟩
theorem imX12_isProtocol : IM yX12_isProtocol := ⟨k_1257, k_38⟩
def rmX12_at : Room := { frames := 0, cells := 0, slots := 0, locals := 0 }
theorem cmX12_at : CM yX12_at cX12_at 1 (some .int) 1 := ⟨k_1246, k_89, by decide +kernel⟩
theorem smX12_at : Cond.static yX12_at ∈ GW := k_1245
def rmX12_isCode : Room := { frames := 1, cells := 0, slots := 0, locals := 22 }
theorem cmX12_isCode : CM yX12_isCode cX12_isCode 3 (some .boolean) 2 := ⟨k_1280, k_89, by decide +kernel⟩
theorem imX12_isCode : IM yX12_isCode := ⟨k_1279, k_39⟩
def rmX12_isLength : Room := { frames := 1, cells := 0, slots := 0, locals := 22 }
theorem cmX12_isLength : CM yX12_isLength cX12_isLength 1 (some .boolean) 1 := ⟨k_1264, k_89, by decide +kernel⟩
theorem smX12_isLength : Cond.static yX12_isLength ∈ GW := k_1263
def rmX12_areLengths : Room := { frames := 2, cells := 0, slots := 0, locals := 42 }
theorem cmX12_areLengths : CM yX12_areLengths cX12_areLengths 7 (some .boolean) 6 := ⟨k_1261, k_89, by decide +kernel⟩
theorem smX12_areLengths : Cond.static yX12_areLengths ∈ GW := k_1260
def rmX12_addsProtocol : Room := { frames := 1, cells := 0, slots := 0, locals := 20 }
theorem cmX12_addsProtocol : CM yX12_addsProtocol cX12_addsProtocol 6 none 4 := ⟨k_1243, k_89, by decide +kernel⟩
theorem imX12_addsProtocol : IM yX12_addsProtocol := ⟨k_1242, k_36⟩
def rmX12_setsLengths : Room := { frames := 1, cells := 0, slots := 0, locals := 20 }
theorem cmX12_setsLengths : CM yX12_setsLengths cX12_setsLengths 7 none 6 := ⟨k_1250, k_89, by decide +kernel⟩
theorem imX12_setsLengths : IM yX12_setsLengths := ⟨k_1249, k_37⟩
def rmX12_addProtocol : Room := { frames := 2, cells := 0, slots := 0, locals := 46 }
theorem cmX12_addProtocol : CM yX12_addProtocol cX12_addProtocol 5 (some .int) 4 := ⟨k_1232, k_89, by decide +kernel⟩
theorem imX12_addProtocol : IM yX12_addProtocol := ⟨k_1230, k_1231⟩
def rmX12_setLengths : Room := { frames := 3, cells := 0, slots := 0, locals := 68 }
theorem cmX12_setLengths : CM yX12_setLengths cX12_setLengths 8 (some .int) 6 := ⟨k_1254, k_89, by decide +kernel⟩
theorem imX12_setLengths : IM yX12_setLengths := ⟨k_1252, k_1253⟩
def rmX12_protocol : Room := { frames := 2, cells := 0, slots := 0, locals := 43 }
theorem cmX12_protocol : CM yX12_protocol cX12_protocol 3 (some .int) 2 := ⟨k_1268, k_89, by decide +kernel⟩
theorem imX12_protocol : IM yX12_protocol := ⟨k_1266, k_1267⟩
def rmX12_count : Room := { frames := 0, cells := 0, slots := 0, locals := 0 }
theorem cmX12_count : CM yX12_count cX12_count 2 (some .int) 1 := ⟨k_1272, k_89, by decide +kernel⟩
theorem imX12_count : IM yX12_count := ⟨k_1270, k_1271⟩
def rmX12_identity : Room := { frames := 1, cells := 0, slots := 0, locals := 20 }
theorem cmX12_identity : CM yX12_identity cX12_identity 4 (some .int) 2 := ⟨k_1284, k_89, by decide +kernel⟩
theorem imX12_identity : IM yX12_identity := ⟨k_1283, k_40⟩
def rmX12_buttonOf : Room := { frames := 0, cells := 0, slots := 0, locals := 0 }
theorem cmX12_buttonOf : CM yX12_buttonOf cX12_buttonOf 4 (some .int) 2 := ⟨k_1288, k_89, by decide +kernel⟩
theorem imX12_buttonOf : IM yX12_buttonOf := ⟨k_1287, k_41⟩
def rmX12_addsButton : Room := { frames := 0, cells := 0, slots := 0, locals := 0 }
theorem cmX12_addsButton : CM yX12_addsButton cX12_addsButton 3 none 2 := ⟨k_1292, k_89, by decide +kernel⟩
theorem imX12_addsButton : IM yX12_addsButton := ⟨k_1291, k_42⟩
def rmX12_addButton : Room := { frames := 2, cells := 0, slots := 0, locals := 44 }
theorem cmX12_addButton : CM yX12_addButton cX12_addButton 3 (some .int) 2 := ⟨k_1276, k_89, by decide +kernel⟩
theorem imX12_addButton : IM yX12_addButton := ⟨k_1274, k_1275⟩
def rmX12_button : Room := { frames := 1, cells := 0, slots := 0, locals := 22 }
theorem cmX12_button : CM yX12_button cX12_button 3 (some .int) 2 := ⟨k_1296, k_89, by decide +kernel⟩
theorem imX12_button : IM yX12_button := ⟨k_1294, k_1295⟩
def rmX12_sets : Room := { frames := 1, cells := 0, slots := 0, locals := 21 }
theorem cmX12_sets : CM yX12_sets cX12_sets 5 (some .int) 3 := ⟨k_1305, k_89, by decide +kernel⟩
theorem imX12_sets : IM yX12_sets := ⟨k_1304, k_43⟩
def rmX12_setGap : Room := { frames := 2, cells := 0, slots := 0, locals := 45 }
theorem cmX12_setGap : CM yX12_setGap cX12_setGap 2 (some .int) 1 := ⟨k_1300, k_89, by decide +kernel⟩
theorem imX12_setGap : IM yX12_setGap := ⟨k_1298, k_1299⟩
def rmX12_setHold : Room := { frames := 2, cells := 0, slots := 0, locals := 45 }
theorem cmX12_setHold : CM yX12_setHold cX12_setHold 2 (some .int) 1 := ⟨k_1309, k_89, by decide +kernel⟩
theorem imX12_setHold : IM yX12_setHold := ⟨k_1307, k_1308⟩
def rmX12_setTolerance : Room := { frames := 2, cells := 0, slots := 0, locals := 45 }
theorem cmX12_setTolerance : CM yX12_setTolerance cX12_setTolerance 2 (some .int) 1 := ⟨k_1313, k_89, by decide +kernel⟩
theorem imX12_setTolerance : IM yX12_setTolerance := ⟨k_1311, k_1312⟩
def rmX12_appendCharacter : Room := { frames := 1, cells := 0, slots := 0, locals := 22 }
theorem cmX12_appendCharacter : CM yX12_appendCharacter cX12_appendCharacter 2 (some .int) 1 := ⟨k_1317, k_89, by decide +kernel⟩
theorem imX12_appendCharacter : IM yX12_appendCharacter := ⟨k_1315, k_1316⟩
def rmX12_clearText : Room := { frames := 0, cells := 0, slots := 0, locals := 0 }
theorem cmX12_clearText : CM yX12_clearText cX12_clearText 2 (some .int) 0 := ⟨k_1321, k_89, by decide +kernel⟩
theorem imX12_clearText : IM yX12_clearText := ⟨k_1319, k_1320⟩
def rmX12_here : Room := { frames := 0, cells := 0, slots := 0, locals := 0 }
theorem cmX12_here : CM yX12_here cX12_here 1 (some .int) 0 := ⟨k_1333, k_89, by decide +kernel⟩
theorem imX12_here : IM yX12_here := ⟨k_1332, k_45⟩
def rmX12_readsToken : Room := { frames := 1, cells := 0, slots := 0, locals := 22 }
theorem cmX12_readsToken : CM yX12_readsToken cX12_readsToken 2 none 0 := ⟨k_1329, k_89, by decide +kernel⟩
theorem imX12_readsToken : IM yX12_readsToken := ⟨k_1328, k_44⟩
def rmX12_takes : Room := { frames := 2, cells := 0, slots := 0, locals := 43 }
theorem cmX12_takes : CM yX12_takes cX12_takes 2 none 1 := ⟨k_1345, k_89, by decide +kernel⟩
theorem imX12_takes : IM yX12_takes := ⟨k_1344, k_46⟩
def rmX12_takesNumber : Room := { frames := 3, cells := 0, slots := 0, locals := 64 }
theorem cmX12_takesNumber : CM yX12_takesNumber cX12_takesNumber 4 (some .int) 2 := ⟨k_1353, k_89, by decide +kernel⟩
theorem imX12_takesNumber : IM yX12_takesNumber := ⟨k_1352, k_48⟩
def rmX12_readsProtocol : Room := { frames := 4, cells := 0, slots := 0, locals := 87 }
theorem cmX12_readsProtocol : CM yX12_readsProtocol cX12_readsProtocol 11 none 0 := ⟨k_1349, k_89, by decide +kernel⟩
theorem imX12_readsProtocol : IM yX12_readsProtocol := ⟨k_1348, k_47⟩
def rmX12_readsButton : Room := { frames := 4, cells := 0, slots := 0, locals := 87 }
theorem cmX12_readsButton : CM yX12_readsButton cX12_readsButton 5 none 0 := ⟨k_1357, k_89, by decide +kernel⟩
theorem imX12_readsButton : IM yX12_readsButton := ⟨k_1356, k_49⟩
def rmX12_exchanges : Room := { frames := 0, cells := 0, slots := 0, locals := 0 }
theorem cmX12_exchanges : CM yX12_exchanges cX12_exchanges 3 none 0 := ⟨k_1362, k_89, by decide +kernel⟩
theorem imX12_exchanges : IM yX12_exchanges := ⟨k_1361, k_50⟩
def rmX12_load : Room := { frames := 5, cells := 0, slots := 0, locals := 117 }
theorem cmX12_load : CM yX12_load cX12_load 4 (some .int) 0 := ⟨k_1325, k_89, by decide +kernel⟩
theorem imX12_load : IM yX12_load := ⟨k_1323, k_1324⟩
def rmX12_isMark : Room := { frames := 0, cells := 0, slots := 0, locals := 0 }
theorem cmX12_isMark : CM yX12_isMark cX12_isMark 1 (some .boolean) 0 := ⟨k_1388, k_89, by decide +kernel⟩
theorem imX12_isMark : IM yX12_isMark := ⟨k_1387, k_53⟩
def rmX12_lays : Room := { frames := 1, cells := 0, slots := 0, locals := 20 }
theorem cmX12_lays : CM yX12_lays cX12_lays 3 none 2 := ⟨k_1384, k_89, by decide +kernel⟩
theorem imX12_lays : IM yX12_lays := ⟨k_1383, k_52⟩
def rmX12_bit : Room := { frames := 1, cells := 0, slots := 0, locals := 20 }
theorem cmX12_bit : CM yX12_bit cX12_bit 5 (some .boolean) 3 := ⟨k_1392, k_89, by decide +kernel⟩
theorem imX12_bit : IM yX12_bit := ⟨k_1391, k_54⟩
def rmX12_makes : Room := { frames := 2, cells := 0, slots := 0, locals := 44 }
theorem cmX12_makes : CM yX12_makes cX12_makes 6 none 2 := ⟨k_1380, k_89, by decide +kernel⟩
theorem imX12_makes : IM yX12_makes := ⟨k_1379, k_51⟩
def rmX12_makesShort : Room := { frames := 1, cells := 0, slots := 0, locals := 20 }
theorem cmX12_makesShort : CM yX12_makesShort cX12_makesShort 2 none 1 := ⟨k_1404, k_89, by decide +kernel⟩
theorem imX12_makesShort : IM yX12_makesShort := ⟨k_1403, k_56⟩
def rmX12_trainAt : Room := { frames := 0, cells := 0, slots := 0, locals := 0 }
theorem cmX12_trainAt : CM yX12_trainAt cX12_trainAt 1 (some .int) 1 := ⟨k_1372, k_89, by decide +kernel⟩
theorem smX12_trainAt : Cond.static yX12_trainAt ∈ GW := k_1371
def rmX12_looksAt : Room := { frames := 1, cells := 0, slots := 0, locals := 20 }
theorem cmX12_looksAt : CM yX12_looksAt cX12_looksAt 3 none 1 := ⟨k_1416, k_89, by decide +kernel⟩
theorem imX12_looksAt : IM yX12_looksAt := ⟨k_1415, k_57⟩
def rmX12_append : Room := { frames := 2, cells := 0, slots := 0, locals := 42 }
theorem cmX12_append : CM yX12_append cX12_append 3 (some .int) 2 := ⟨k_1366, k_89, by decide +kernel⟩
theorem imX12_append : IM yX12_append := ⟨k_1364, k_1365⟩
def rmX12_sends : Room := { frames := 1, cells := 0, slots := 0, locals := 21 }
theorem cmX12_sends : CM yX12_sends cX12_sends 6 (some .int) 2 := ⟨k_1396, k_89, by decide +kernel⟩
theorem imX12_sends : IM yX12_sends := ⟨k_1395, k_55⟩
def rmX12_send : Room := { frames := 3, cells := 0, slots := 0, locals := 69 }
theorem cmX12_send : CM yX12_send cX12_send 5 (some .int) 4 := ⟨k_1376, k_89, by decide +kernel⟩
theorem imX12_send : IM yX12_send := ⟨k_1374, k_1375⟩
def rmX12_sendShort : Room := { frames := 2, cells := 0, slots := 0, locals := 46 }
theorem cmX12_sendShort : CM yX12_sendShort cX12_sendShort 4 (some .int) 3 := ⟨k_1400, k_89, by decide +kernel⟩
theorem imX12_sendShort : IM yX12_sendShort := ⟨k_1398, k_1399⟩
def rmX12_clear : Room := { frames := 2, cells := 0, slots := 0, locals := 42 }
theorem cmX12_clear : CM yX12_clear cX12_clear 3 (some .int) 1 := ⟨k_1408, k_89, by decide +kernel⟩
theorem imX12_clear : IM yX12_clear := ⟨k_1406, k_1407⟩
def rmX12_overlays : Room := { frames := 0, cells := 0, slots := 0, locals := 0 }
theorem cmX12_overlays : CM yX12_overlays cX12_overlays 10 none 1 := ⟨k_1420, k_89, by decide +kernel⟩
theorem imX12_overlays : IM yX12_overlays := ⟨k_1419, k_58⟩
def rmX12_overlay : Room := { frames := 2, cells := 0, slots := 0, locals := 42 }
theorem cmX12_overlay : CM yX12_overlay cX12_overlay 6 (some .int) 3 := ⟨k_1412, k_89, by decide +kernel⟩
theorem imX12_overlay : IM yX12_overlay := ⟨k_1410, k_1411⟩
def rmX12_floor : Room := { frames := 0, cells := 0, slots := 0, locals := 0 }
theorem cmX12_floor : CM yX12_floor cX12_floor 2 (some .int) 2 := ⟨k_1427, k_89, by decide +kernel⟩
theorem smX12_floor : Cond.static yX12_floor ∈ GW := k_1426
def rmX12_distort : Room := { frames := 2, cells := 0, slots := 0, locals := 42 }
theorem cmX12_distort : CM yX12_distort cX12_distort 9 (some .int) 3 := ⟨k_1424, k_89, by decide +kernel⟩
theorem imX12_distort : IM yX12_distort := ⟨k_1422, k_1423⟩
def rmX12_duration : Room := { frames := 2, cells := 0, slots := 0, locals := 42 }
theorem cmX12_duration : CM yX12_duration cX12_duration 3 (some .int) 2 := ⟨k_1431, k_89, by decide +kernel⟩
theorem imX12_duration : IM yX12_duration := ⟨k_1429, k_1430⟩
def rmX12_length : Room := { frames := 2, cells := 0, slots := 0, locals := 42 }
theorem cmX12_length : CM yX12_length cX12_length 2 (some .int) 1 := ⟨k_1435, k_89, by decide +kernel⟩
theorem imX12_length : IM yX12_length := ⟨k_1433, k_1434⟩
def rmX12_findsFrames : Room := { frames := 0, cells := 0, slots := 0, locals := 0 }
theorem cmX12_findsFrames : CM yX12_findsFrames cX12_findsFrames 4 none 0 := ⟨k_1447, k_89, by decide +kernel⟩
theorem imX12_findsFrames : IM yX12_findsFrames := ⟨k_1446, k_60⟩
def rmX12_matches : Room := { frames := 0, cells := 0, slots := 0, locals := 0 }
theorem cmX12_matches : CM yX12_matches cX12_matches 4 (some .boolean) 2 := ⟨k_1467, k_89, by decide +kernel⟩
theorem imX12_matches : IM yX12_matches := ⟨k_1466, k_64⟩
def rmX12_match : Room := { frames := 1, cells := 0, slots := 0, locals := 23 }
theorem cmX12_match : CM yX12_match cX12_match 6 (some .boolean) 3 := ⟨k_1483, k_89, by decide +kernel⟩
theorem imX12_match : IM yX12_match := ⟨k_1482, k_67⟩
def rmX12_ordered : Room := { frames := 1, cells := 0, slots := 0, locals := 20 }
theorem cmX12_ordered : CM yX12_ordered cX12_ordered 7 (some .int) 2 := ⟨k_1491, k_89, by decide +kernel⟩
theorem imX12_ordered : IM yX12_ordered := ⟨k_1490, k_69⟩
def rmX12_readsBits : Room := { frames := 1, cells := 0, slots := 0, locals := 23 }
theorem cmX12_readsBits : CM yX12_readsBits cX12_readsBits 7 (some .int) 2 := ⟨k_1487, k_89, by decide +kernel⟩
theorem imX12_readsBits : IM yX12_readsBits := ⟨k_1486, k_68⟩
def rmX12_goesOn : Room := { frames := 1, cells := 0, slots := 0, locals := 23 }
theorem cmX12_goesOn : CM yX12_goesOn cX12_goesOn 9 (some .int) 6 := ⟨k_1479, k_89, by decide +kernel⟩
theorem imX12_goesOn : IM yX12_goesOn := ⟨k_1478, k_66⟩
def rmX12_isWhole : Room := { frames := 1, cells := 0, slots := 0, locals := 23 }
theorem cmX12_isWhole : CM yX12_isWhole cX12_isWhole 6 (some .boolean) 5 := ⟨k_1472, k_89, by decide +kernel⟩
theorem imX12_isWhole : IM yX12_isWhole := ⟨k_1471, k_65⟩
def rmX12_dead : Room := { frames := 0, cells := 0, slots := 0, locals := 0 }
theorem cmX12_dead : CM yX12_dead cX12_dead 3 (some .int) 3 := ⟨k_1475, k_89, by decide +kernel⟩
theorem smX12_dead : Cond.static yX12_dead ∈ GW := k_1474
def rmX12_readsPhase : Room := { frames := 2, cells := 0, slots := 0, locals := 51 }
theorem cmX12_readsPhase : CM yX12_readsPhase cX12_readsPhase 9 (some .int) 3 := ⟨k_1463, k_89, by decide +kernel⟩
theorem imX12_readsPhase : IM yX12_readsPhase := ⟨k_1462, k_63⟩
def rmX12_codeOf : Room := { frames := 3, cells := 0, slots := 0, locals := 79 }
theorem cmX12_codeOf : CM yX12_codeOf cX12_codeOf 8 (some .int) 3 := ⟨k_1459, k_89, by decide +kernel⟩
theorem imX12_codeOf : IM yX12_codeOf := ⟨k_1458, k_62⟩
def rmX12_isShort : Room := { frames := 1, cells := 0, slots := 0, locals := 23 }
theorem cmX12_isShort : CM yX12_isShort cX12_isShort 5 (some .boolean) 3 := ⟨k_1495, k_89, by decide +kernel⟩
theorem imX12_isShort : IM yX12_isShort := ⟨k_1494, k_70⟩
def rmX12_decodes : Room := { frames := 4, cells := 0, slots := 0, locals := 106 }
theorem cmX12_decodes : CM yX12_decodes cX12_decodes 4 (some .boolean) 1 := ⟨k_1455, k_89, by decide +kernel⟩
theorem imX12_decodes : IM yX12_decodes := ⟨k_1454, k_61⟩
def rmX12_opens : Room := { frames := 2, cells := 0, slots := 0, locals := 42 }
theorem cmX12_opens : CM yX12_opens cX12_opens 2 none 1 := ⟨k_1443, k_89, by decide +kernel⟩
theorem imX12_opens : IM yX12_opens := ⟨k_1442, k_59⟩
def rmX12_frameCount : Room := { frames := 3, cells := 0, slots := 0, locals := 63 }
theorem cmX12_frameCount : CM yX12_frameCount cX12_frameCount 2 (some .int) 1 := ⟨k_1439, k_89, by decide +kernel⟩
theorem imX12_frameCount : IM yX12_frameCount := ⟨k_1437, k_1438⟩
def rmX12_frame : Room := { frames := 5, cells := 0, slots := 0, locals := 129 }
theorem cmX12_frame : CM yX12_frame cX12_frame 4 (some .int) 3 := ⟨k_1451, k_89, by decide +kernel⟩
theorem imX12_frame : IM yX12_frame := ⟨k_1449, k_1450⟩
def rmX12_deviation : Room := { frames := 5, cells := 0, slots := 0, locals := 129 }
theorem cmX12_deviation : CM yX12_deviation cX12_deviation 8 (some .int) 2 := ⟨k_1499, k_89, by decide +kernel⟩
theorem imX12_deviation : IM yX12_deviation := ⟨k_1497, k_1498⟩
def rmX12_findsPresses : Room := { frames := 5, cells := 0, slots := 0, locals := 129 }
theorem cmX12_findsPresses : CM yX12_findsPresses cX12_findsPresses 10 none 1 := ⟨k_1508, k_89, by decide +kernel⟩
theorem imX12_findsPresses : IM yX12_findsPresses := ⟨k_1507, k_71⟩
def rmX12_pressCount : Room := { frames := 6, cells := 0, slots := 0, locals := 158 }
theorem cmX12_pressCount : CM yX12_pressCount cX12_pressCount 2 (some .int) 1 := ⟨k_1504, k_89, by decide +kernel⟩
theorem imX12_pressCount : IM yX12_pressCount := ⟨k_1502, k_1503⟩
def rmX12_press : Room := { frames := 6, cells := 0, slots := 0, locals := 158 }
theorem cmX12_press : CM yX12_press cX12_press 5 (some .int) 3 := ⟨k_1512, k_89, by decide +kernel⟩
theorem imX12_press : IM yX12_press := ⟨k_1510, k_1511⟩
def rmX12_strayCount : Room := { frames := 6, cells := 0, slots := 0, locals := 158 }
theorem cmX12_strayCount : CM yX12_strayCount cX12_strayCount 2 (some .int) 1 := ⟨k_1516, k_89, by decide +kernel⟩
theorem imX12_strayCount : IM yX12_strayCount := ⟨k_1514, k_1515⟩
def rmX12_neededTolerance : Room := { frames := 5, cells := 0, slots := 0, locals := 129 }
theorem cmX12_neededTolerance : CM yX12_neededTolerance cX12_neededTolerance 5 (some .int) 1 := ⟨k_1520, k_89, by decide +kernel⟩
theorem imX12_neededTolerance : IM yX12_neededTolerance := ⟨k_1518, k_1519⟩
def rmX12_findsClusters : Room := { frames := 0, cells := 0, slots := 0, locals := 0 }
theorem cmX12_findsClusters : CM yX12_findsClusters cX12_findsClusters 6 none 1 := ⟨k_1528, k_89, by decide +kernel⟩
theorem imX12_findsClusters : IM yX12_findsClusters := ⟨k_1527, k_72⟩
def rmX12_meanOf : Room := { frames := 0, cells := 0, slots := 0, locals := 0 }
theorem cmX12_meanOf : CM yX12_meanOf cX12_meanOf 5 (some .int) 1 := ⟨k_1536, k_89, by decide +kernel⟩
theorem imX12_meanOf : IM yX12_meanOf := ⟨k_1535, k_73⟩
def rmX12_clusters : Room := { frames := 3, cells := 0, slots := 0, locals := 63 }
theorem cmX12_clusters : CM yX12_clusters cX12_clusters 3 (some .int) 2 := ⟨k_1524, k_89, by decide +kernel⟩
theorem imX12_clusters : IM yX12_clusters := ⟨k_1522, k_1523⟩
def rmX12_learn : Room := { frames := 3, cells := 0, slots := 0, locals := 68 }
theorem cmX12_learn : CM yX12_learn cX12_learn 12 (some .int) 1 := ⟨k_1532, k_89, by decide +kernel⟩
theorem imX12_learn : IM yX12_learn := ⟨k_1530, k_1531⟩
def rmX12_collides : Room := { frames := 3, cells := 0, slots := 0, locals := 69 }
theorem cmX12_collides : CM yX12_collides cX12_collides 5 none 3 := ⟨k_1544, k_89, by decide +kernel⟩
theorem imX12_collides : IM yX12_collides := ⟨k_1543, k_74⟩
def rmX12_isLike : Room := { frames := 1, cells := 0, slots := 0, locals := 23 }
theorem cmX12_isLike : CM yX12_isLike cX12_isLike 4 (some .boolean) 1 := ⟨k_1548, k_89, by decide +kernel⟩
theorem imX12_isLike : IM yX12_isLike := ⟨k_1547, k_75⟩
def rmX12_explain : Room := { frames := 4, cells := 0, slots := 0, locals := 93 }
theorem cmX12_explain : CM yX12_explain cX12_explain 7 (some .int) 3 := ⟨k_1540, k_89, by decide +kernel⟩
theorem imX12_explain : IM yX12_explain := ⟨k_1538, k_1539⟩
def rmX12_ghosts : Room := { frames := 5, cells := 0, slots := 0, locals := 129 }
theorem cmX12_ghosts : CM yX12_ghosts cX12_ghosts 8 (some .int) 1 := ⟨k_1552, k_89, by decide +kernel⟩
theorem imX12_ghosts : IM yX12_ghosts := ⟨k_1550, k_1551⟩
