-- ===== PART A: goes FIRST, ahead of the names: the tables' words, and 'selects' of the private methods out of them =====
/-- a private method of a class that the tables say can be made, by its rows of tables_1 -/
def lw_okq (q : MethodName × Nat) : Prop := (q.1.cls ≠ "java/lang/invoke/MethodHandle" ∧ q.1.cls ≠ "java/lang/invoke/VarHandle") ∧ Cond.instantiable q.1.cls q.2 ∈ tables_1 ∧ Cond.privateMethod q.1 ∈ tables_1 ∧ Cond.instanceMethod q.1 ∈ tables_1
theorem lw_p0 : lw_okq (⟨"PulseRemote", "saveState", "()V"⟩, 12) := ⟨⟨by decide +kernel, by decide +kernel⟩, List.mem_of_getElem? (i := 21) (by decide +kernel), List.mem_of_getElem? (i := 438) (by decide +kernel), List.mem_of_getElem? (i := 439) (by decide +kernel)⟩
theorem lw_p1 : lw_okq (⟨"PulseRemote$FrameList", "note", "(II)V"⟩, 4) := ⟨⟨by decide +kernel, by decide +kernel⟩, List.mem_of_getElem? (i := 189) (by decide +kernel), List.mem_of_getElem? (i := 535) (by decide +kernel), List.mem_of_getElem? (i := 536) (by decide +kernel)⟩
theorem lw_p2 : lw_okq (⟨"PulseRemote$Learner", "insertAll", "(LPulseRemote$FrameList;I)V"⟩, 10) := ⟨⟨by decide +kernel, by decide +kernel⟩, List.mem_of_getElem? (i := 279) (by decide +kernel), List.mem_of_getElem? (i := 560) (by decide +kernel), List.mem_of_getElem? (i := 561) (by decide +kernel)⟩
theorem lw_p3 : lw_okq (⟨"PulseRemote$Clusters", "mean", "(II)I"⟩, 5) := ⟨⟨by decide +kernel, by decide +kernel⟩, List.mem_of_getElem? (i := 285) (by decide +kernel), List.mem_of_getElem? (i := 572) (by decide +kernel), List.mem_of_getElem? (i := 573) (by decide +kernel)⟩
theorem lw_p4 : lw_okq (⟨"PulseRemote$Clusters", "noteCluster", "(I)V"⟩, 5) := ⟨⟨by decide +kernel, by decide +kernel⟩, List.mem_of_getElem? (i := 285) (by decide +kernel), List.mem_of_getElem? (i := 577) (by decide +kernel), List.mem_of_getElem? (i := 578) (by decide +kernel)⟩
theorem lw_p5 : lw_okq (⟨"PulseRemote$Learner", "makeProtocol", "(IILPulseRemote$Clusters;LPulseRemote$Clusters;)Z"⟩, 10) := ⟨⟨by decide +kernel, by decide +kernel⟩, List.mem_of_getElem? (i := 279) (by decide +kernel), List.mem_of_getElem? (i := 585) (by decide +kernel), List.mem_of_getElem? (i := 586) (by decide +kernel)⟩
theorem lw_p6 : lw_okq (⟨"PulseRemote$Text", "takeToken", "()V"⟩, 5) := ⟨⟨by decide +kernel, by decide +kernel⟩, List.mem_of_getElem? (i := 160) (by decide +kernel), List.mem_of_getElem? (i := 678) (by decide +kernel), List.mem_of_getElem? (i := 679) (by decide +kernel)⟩
theorem lw_p7 : lw_okq (⟨"PulseRemote$Text", "at", "(I)C"⟩, 5) := ⟨⟨by decide +kernel, by decide +kernel⟩, List.mem_of_getElem? (i := 160) (by decide +kernel), List.mem_of_getElem? (i := 682) (by decide +kernel), List.mem_of_getElem? (i := 683) (by decide +kernel)⟩
theorem lw_p8 : lw_okq (⟨"PulseRemote$Text", "kindAt", "(I)I"⟩, 5) := ⟨⟨by decide +kernel, by decide +kernel⟩, List.mem_of_getElem? (i := 160) (by decide +kernel), List.mem_of_getElem? (i := 686) (by decide +kernel), List.mem_of_getElem? (i := 687) (by decide +kernel)⟩
theorem lw_p9 : lw_okq (⟨"PulseRemote$Text", "readItem", "(LPulseRemote$Table;)Z"⟩, 5) := ⟨⟨by decide +kernel, by decide +kernel⟩, List.mem_of_getElem? (i := 160) (by decide +kernel), List.mem_of_getElem? (i := 690) (by decide +kernel), List.mem_of_getElem? (i := 691) (by decide +kernel)⟩
theorem lw_p10 : lw_okq (⟨"PulseRemote$Text", "isWord", "(Ljava/lang/String;)Z"⟩, 5) := ⟨⟨by decide +kernel, by decide +kernel⟩, List.mem_of_getElem? (i := 160) (by decide +kernel), List.mem_of_getElem? (i := 695) (by decide +kernel), List.mem_of_getElem? (i := 696) (by decide +kernel)⟩
theorem lw_p11 : lw_okq (⟨"PulseRemote$Text", "readProtocol", "(LPulseRemote$Table;)Z"⟩, 5) := ⟨⟨by decide +kernel, by decide +kernel⟩, List.mem_of_getElem? (i := 160) (by decide +kernel), List.mem_of_getElem? (i := 748) (by decide +kernel), List.mem_of_getElem? (i := 749) (by decide +kernel)⟩
theorem lw_p12 : lw_okq (⟨"PulseRemote$Text", "readNumber", "(II)I"⟩, 5) := ⟨⟨by decide +kernel, by decide +kernel⟩, List.mem_of_getElem? (i := 160) (by decide +kernel), List.mem_of_getElem? (i := 752) (by decide +kernel), List.mem_of_getElem? (i := 753) (by decide +kernel)⟩
theorem lw_p13 : lw_okq (⟨"PulseRemote$Text", "readEnd", "()Z"⟩, 5) := ⟨⟨by decide +kernel, by decide +kernel⟩, List.mem_of_getElem? (i := 160) (by decide +kernel), List.mem_of_getElem? (i := 758) (by decide +kernel), List.mem_of_getElem? (i := 759) (by decide +kernel)⟩
theorem lw_p14 : lw_okq (⟨"PulseRemote$Text", "readButton", "(LPulseRemote$Table;)Z"⟩, 5) := ⟨⟨by decide +kernel, by decide +kernel⟩, List.mem_of_getElem? (i := 160) (by decide +kernel), List.mem_of_getElem? (i := 767) (by decide +kernel), List.mem_of_getElem? (i := 768) (by decide +kernel)⟩
theorem lw_p15 : lw_okq (⟨"PulseRemote$Protocol", "writeBit", "(ZILPulseRemote$Train;)V"⟩, 9) := ⟨⟨by decide +kernel, by decide +kernel⟩, List.mem_of_getElem? (i := 42) (by decide +kernel), List.mem_of_getElem? (i := 793) (by decide +kernel), List.mem_of_getElem? (i := 794) (by decide +kernel)⟩
def lw_privs_1 : List (MethodName × Nat) := [(⟨"PulseRemote", "saveState", "()V"⟩, 12), (⟨"PulseRemote$FrameList", "note", "(II)V"⟩, 4), (⟨"PulseRemote$Learner", "insertAll", "(LPulseRemote$FrameList;I)V"⟩, 10), (⟨"PulseRemote$Clusters", "mean", "(II)I"⟩, 5), (⟨"PulseRemote$Clusters", "noteCluster", "(I)V"⟩, 5), (⟨"PulseRemote$Learner", "makeProtocol", "(IILPulseRemote$Clusters;LPulseRemote$Clusters;)Z"⟩, 10), (⟨"PulseRemote$Text", "takeToken", "()V"⟩, 5), (⟨"PulseRemote$Text", "at", "(I)C"⟩, 5), (⟨"PulseRemote$Text", "kindAt", "(I)I"⟩, 5), (⟨"PulseRemote$Text", "readItem", "(LPulseRemote$Table;)Z"⟩, 5), (⟨"PulseRemote$Text", "isWord", "(Ljava/lang/String;)Z"⟩, 5), (⟨"PulseRemote$Text", "readProtocol", "(LPulseRemote$Table;)Z"⟩, 5), (⟨"PulseRemote$Text", "readNumber", "(II)I"⟩, 5), (⟨"PulseRemote$Text", "readEnd", "()Z"⟩, 5), (⟨"PulseRemote$Text", "readButton", "(LPulseRemote$Table;)Z"⟩, 5), (⟨"PulseRemote$Protocol", "writeBit", "(ZILPulseRemote$Train;)V"⟩, 9)]
theorem lw_r1 : ∀ q ∈ lw_privs_1, lw_okq q := List.forall_mem_cons.mpr ⟨lw_p0, List.forall_mem_cons.mpr ⟨lw_p1, List.forall_mem_cons.mpr ⟨lw_p2, List.forall_mem_cons.mpr ⟨lw_p3, List.forall_mem_cons.mpr ⟨lw_p4, List.forall_mem_cons.mpr ⟨lw_p5, List.forall_mem_cons.mpr ⟨lw_p6, List.forall_mem_cons.mpr ⟨lw_p7, List.forall_mem_cons.mpr ⟨lw_p8, List.forall_mem_cons.mpr ⟨lw_p9, List.forall_mem_cons.mpr ⟨lw_p10, List.forall_mem_cons.mpr ⟨lw_p11, List.forall_mem_cons.mpr ⟨lw_p12, List.forall_mem_cons.mpr ⟨lw_p13, List.forall_mem_cons.mpr ⟨lw_p14, List.forall_mem_cons.mpr ⟨lw_p15, fun _ h => absurd h List.not_mem_nil⟩⟩⟩⟩⟩⟩⟩⟩⟩⟩⟩⟩⟩⟩⟩⟩
theorem lw_p16 : lw_okq (⟨"PulseRemote", "appendScratch", "(LPulseRemote$Train;I)I"⟩, 12) := ⟨⟨by decide +kernel, by decide +kernel⟩, List.mem_of_getElem? (i := 21) (by decide +kernel), List.mem_of_getElem? (i := 804) (by decide +kernel), List.mem_of_getElem? (i := 805) (by decide +kernel)⟩
theorem lw_p17 : lw_okq (⟨"PulseRemote$Collision", "takeMark", "()V"⟩, 10) := ⟨⟨by decide +kernel, by decide +kernel⟩, List.mem_of_getElem? (i := 351) (by decide +kernel), List.mem_of_getElem? (i := 835) (by decide +kernel), List.mem_of_getElem? (i := 836) (by decide +kernel)⟩
theorem lw_p18 : lw_okq (⟨"PulseRemote$Decoder", "take", "(LPulseRemote$FrameList;I)Z"⟩, 6) := ⟨⟨by decide +kernel, by decide +kernel⟩, List.mem_of_getElem? (i := 213) (by decide +kernel), List.mem_of_getElem? (i := 887) (by decide +kernel), List.mem_of_getElem? (i := 888) (by decide +kernel)⟩
theorem lw_p19 : lw_okq (⟨"PulseRemote$Decoder", "phaseCode", "(LPulseRemote$Protocol;)I"⟩, 6) := ⟨⟨by decide +kernel, by decide +kernel⟩, List.mem_of_getElem? (i := 213) (by decide +kernel), List.mem_of_getElem? (i := 894) (by decide +kernel), List.mem_of_getElem? (i := 895) (by decide +kernel)⟩
theorem lw_p20 : lw_okq (⟨"PulseRemote$Decoder", "fits", "(II)Z"⟩, 6) := ⟨⟨by decide +kernel, by decide +kernel⟩, List.mem_of_getElem? (i := 213) (by decide +kernel), List.mem_of_getElem? (i := 898) (by decide +kernel), List.mem_of_getElem? (i := 899) (by decide +kernel)⟩
theorem lw_p21 : lw_okq (⟨"PulseRemote$Decoder", "placesOf", "(I)J"⟩, 6) := ⟨⟨by decide +kernel, by decide +kernel⟩, List.mem_of_getElem? (i := 213) (by decide +kernel), List.mem_of_getElem? (i := 905) (by decide +kernel), List.mem_of_getElem? (i := 906) (by decide +kernel)⟩
theorem lw_p22 : lw_okq (⟨"PulseRemote$Decoder", "restOfPhaseCode", "(LPulseRemote$Protocol;IJJ)I"⟩, 6) := ⟨⟨by decide +kernel, by decide +kernel⟩, List.mem_of_getElem? (i := 213) (by decide +kernel), List.mem_of_getElem? (i := 913) (by decide +kernel), List.mem_of_getElem? (i := 914) (by decide +kernel)⟩
theorem lw_p23 : lw_okq (⟨"PulseRemote$Decoder", "plainCode", "(LPulseRemote$Protocol;)I"⟩, 6) := ⟨⟨by decide +kernel, by decide +kernel⟩, List.mem_of_getElem? (i := 213) (by decide +kernel), List.mem_of_getElem? (i := 918) (by decide +kernel), List.mem_of_getElem? (i := 919) (by decide +kernel)⟩
theorem lw_p24 : lw_okq (⟨"PulseRemote$Decoder", "protocolOfShortFrame", "(LPulseRemote$Table;)I"⟩, 6) := ⟨⟨by decide +kernel, by decide +kernel⟩, List.mem_of_getElem? (i := 213) (by decide +kernel), List.mem_of_getElem? (i := 922) (by decide +kernel), List.mem_of_getElem? (i := 923) (by decide +kernel)⟩
theorem lw_p25 : lw_okq (⟨"PulseRemote", "worstDeviation", "(ILPulseRemote$Train;)I"⟩, 12) := ⟨⟨by decide +kernel, by decide +kernel⟩, List.mem_of_getElem? (i := 21) (by decide +kernel), List.mem_of_getElem? (i := 938) (by decide +kernel), List.mem_of_getElem? (i := 939) (by decide +kernel)⟩
theorem lw_p26 : lw_okq (⟨"PulseRemote$PressList", "continuesLatest", "(LPulseRemote$Decoder;LPulseRemote$Table;)Z"⟩, 8) := ⟨⟨by decide +kernel, by decide +kernel⟩, List.mem_of_getElem? (i := 243) (by decide +kernel), List.mem_of_getElem? (i := 962) (by decide +kernel), List.mem_of_getElem? (i := 963) (by decide +kernel)⟩
theorem lw_p27 : lw_okq (⟨"PulseRemote$PressList", "countLatest", "()V"⟩, 8) := ⟨⟨by decide +kernel, by decide +kernel⟩, List.mem_of_getElem? (i := 243) (by decide +kernel), List.mem_of_getElem? (i := 969) (by decide +kernel), List.mem_of_getElem? (i := 970) (by decide +kernel)⟩
theorem lw_p28 : lw_okq (⟨"PulseRemote$PressList", "begin", "(LPulseRemote$Decoder;)V"⟩, 8) := ⟨⟨by decide +kernel, by decide +kernel⟩, List.mem_of_getElem? (i := 243) (by decide +kernel), List.mem_of_getElem? (i := 973) (by decide +kernel), List.mem_of_getElem? (i := 974) (by decide +kernel)⟩
theorem lw_p29 : lw_okq (⟨"PulseRemote", "toleranceFor", "(II)I"⟩, 12) := ⟨⟨by decide +kernel, by decide +kernel⟩, List.mem_of_getElem? (i := 21) (by decide +kernel), List.mem_of_getElem? (i := 995) (by decide +kernel), List.mem_of_getElem? (i := 996) (by decide +kernel)⟩
theorem lw_p30 : lw_okq (⟨"PulseRemote", "writeButtonFrames", "()V"⟩, 12) := ⟨⟨by decide +kernel, by decide +kernel⟩, List.mem_of_getElem? (i := 21) (by decide +kernel), List.mem_of_getElem? (i := 1003) (by decide +kernel), List.mem_of_getElem? (i := 1004) (by decide +kernel)⟩
theorem lw_p31 : lw_okq (⟨"PulseRemote", "buttonFrameAt", "(I)LPulseRemote$Train;"⟩, 12) := ⟨⟨by decide +kernel, by decide +kernel⟩, List.mem_of_getElem? (i := 21) (by decide +kernel), List.mem_of_getElem? (i := 1007) (by decide +kernel), List.mem_of_getElem? (i := 1008) (by decide +kernel)⟩
def lw_privs_2 : List (MethodName × Nat) := [(⟨"PulseRemote", "appendScratch", "(LPulseRemote$Train;I)I"⟩, 12), (⟨"PulseRemote$Collision", "takeMark", "()V"⟩, 10), (⟨"PulseRemote$Decoder", "take", "(LPulseRemote$FrameList;I)Z"⟩, 6), (⟨"PulseRemote$Decoder", "phaseCode", "(LPulseRemote$Protocol;)I"⟩, 6), (⟨"PulseRemote$Decoder", "fits", "(II)Z"⟩, 6), (⟨"PulseRemote$Decoder", "placesOf", "(I)J"⟩, 6), (⟨"PulseRemote$Decoder", "restOfPhaseCode", "(LPulseRemote$Protocol;IJJ)I"⟩, 6), (⟨"PulseRemote$Decoder", "plainCode", "(LPulseRemote$Protocol;)I"⟩, 6), (⟨"PulseRemote$Decoder", "protocolOfShortFrame", "(LPulseRemote$Table;)I"⟩, 6), (⟨"PulseRemote", "worstDeviation", "(ILPulseRemote$Train;)I"⟩, 12), (⟨"PulseRemote$PressList", "continuesLatest", "(LPulseRemote$Decoder;LPulseRemote$Table;)Z"⟩, 8), (⟨"PulseRemote$PressList", "countLatest", "()V"⟩, 8), (⟨"PulseRemote$PressList", "begin", "(LPulseRemote$Decoder;)V"⟩, 8), (⟨"PulseRemote", "toleranceFor", "(II)I"⟩, 12), (⟨"PulseRemote", "writeButtonFrames", "()V"⟩, 12), (⟨"PulseRemote", "buttonFrameAt", "(I)LPulseRemote$Train;"⟩, 12)]
theorem lw_r2 : ∀ q ∈ lw_privs_2, lw_okq q := List.forall_mem_cons.mpr ⟨lw_p16, List.forall_mem_cons.mpr ⟨lw_p17, List.forall_mem_cons.mpr ⟨lw_p18, List.forall_mem_cons.mpr ⟨lw_p19, List.forall_mem_cons.mpr ⟨lw_p20, List.forall_mem_cons.mpr ⟨lw_p21, List.forall_mem_cons.mpr ⟨lw_p22, List.forall_mem_cons.mpr ⟨lw_p23, List.forall_mem_cons.mpr ⟨lw_p24, List.forall_mem_cons.mpr ⟨lw_p25, List.forall_mem_cons.mpr ⟨lw_p26, List.forall_mem_cons.mpr ⟨lw_p27, List.forall_mem_cons.mpr ⟨lw_p28, List.forall_mem_cons.mpr ⟨lw_p29, List.forall_mem_cons.mpr ⟨lw_p30, List.forall_mem_cons.mpr ⟨lw_p31, fun _ h => absurd h List.not_mem_nil⟩⟩⟩⟩⟩⟩⟩⟩⟩⟩⟩⟩⟩⟩⟩⟩
theorem lw_p32 : lw_okq (⟨"PulseRemote", "explainingOffset", "(LPulseRemote$Train;LPulseRemote$Train;LPulseRemote$Train;I)I"⟩, 12) := ⟨⟨by decide +kernel, by decide +kernel⟩, List.mem_of_getElem? (i := 21) (by decide +kernel), List.mem_of_getElem? (i := 1011) (by decide +kernel), List.mem_of_getElem? (i := 1012) (by decide +kernel)⟩
theorem lw_p33 : lw_okq (⟨"PulseRemote", "isCollision", "(LPulseRemote$Train;I)Z"⟩, 12) := ⟨⟨by decide +kernel, by decide +kernel⟩, List.mem_of_getElem? (i := 21) (by decide +kernel), List.mem_of_getElem? (i := 1015) (by decide +kernel), List.mem_of_getElem? (i := 1016) (by decide +kernel)⟩
theorem lw_p34 : lw_okq (⟨"PulseRemote", "showsGhost", "(III)Z"⟩, 12) := ⟨⟨by decide +kernel, by decide +kernel⟩, List.mem_of_getElem? (i := 21) (by decide +kernel), List.mem_of_getElem? (i := 1025) (by decide +kernel), List.mem_of_getElem? (i := 1026) (by decide +kernel)⟩
theorem lw_p35 : lw_okq (⟨"PulseRemoteModel", "note", "()V"⟩, 36) := ⟨⟨by decide +kernel, by decide +kernel⟩, List.mem_of_getElem? (i := 1033) (by decide +kernel), List.mem_of_getElem? (i := 1161) (by decide +kernel), List.mem_of_getElem? (i := 1162) (by decide +kernel)⟩
theorem lw_p36 : lw_okq (⟨"PulseRemoteModel", "addsProtocol", "(IIII)V"⟩, 36) := ⟨⟨by decide +kernel, by decide +kernel⟩, List.mem_of_getElem? (i := 1033) (by decide +kernel), List.mem_of_getElem? (i := 1165) (by decide +kernel), List.mem_of_getElem? (i := 1166) (by decide +kernel)⟩
theorem lw_p37 : lw_okq (⟨"PulseRemoteModel", "setsLengths", "(IIIIII)V"⟩, 36) := ⟨⟨by decide +kernel, by decide +kernel⟩, List.mem_of_getElem? (i := 1033) (by decide +kernel), List.mem_of_getElem? (i := 1172) (by decide +kernel), List.mem_of_getElem? (i := 1173) (by decide +kernel)⟩
theorem lw_p38 : lw_okq (⟨"PulseRemoteModel", "isProtocol", "(I)Z"⟩, 36) := ⟨⟨by decide +kernel, by decide +kernel⟩, List.mem_of_getElem? (i := 1033) (by decide +kernel), List.mem_of_getElem? (i := 1180) (by decide +kernel), List.mem_of_getElem? (i := 1181) (by decide +kernel)⟩
theorem lw_p39 : lw_okq (⟨"PulseRemoteModel", "isCode", "(II)Z"⟩, 36) := ⟨⟨by decide +kernel, by decide +kernel⟩, List.mem_of_getElem? (i := 1033) (by decide +kernel), List.mem_of_getElem? (i := 1202) (by decide +kernel), List.mem_of_getElem? (i := 1203) (by decide +kernel)⟩
theorem lw_p40 : lw_okq (⟨"PulseRemoteModel", "identity", "(II)I"⟩, 36) := ⟨⟨by decide +kernel, by decide +kernel⟩, List.mem_of_getElem? (i := 1033) (by decide +kernel), List.mem_of_getElem? (i := 1206) (by decide +kernel), List.mem_of_getElem? (i := 1207) (by decide +kernel)⟩
theorem lw_p41 : lw_okq (⟨"PulseRemoteModel", "buttonOf", "(II)I"⟩, 36) := ⟨⟨by decide +kernel, by decide +kernel⟩, List.mem_of_getElem? (i := 1033) (by decide +kernel), List.mem_of_getElem? (i := 1210) (by decide +kernel), List.mem_of_getElem? (i := 1211) (by decide +kernel)⟩
theorem lw_p42 : lw_okq (⟨"PulseRemoteModel", "addsButton", "(II)V"⟩, 36) := ⟨⟨by decide +kernel, by decide +kernel⟩, List.mem_of_getElem? (i := 1033) (by decide +kernel), List.mem_of_getElem? (i := 1214) (by decide +kernel), List.mem_of_getElem? (i := 1215) (by decide +kernel)⟩
theorem lw_p43 : lw_okq (⟨"PulseRemoteModel", "sets", "(IIZ)I"⟩, 36) := ⟨⟨by decide +kernel, by decide +kernel⟩, List.mem_of_getElem? (i := 1033) (by decide +kernel), List.mem_of_getElem? (i := 1227) (by decide +kernel), List.mem_of_getElem? (i := 1228) (by decide +kernel)⟩
theorem lw_p44 : lw_okq (⟨"PulseRemoteModel", "readsToken", "()V"⟩, 36) := ⟨⟨by decide +kernel, by decide +kernel⟩, List.mem_of_getElem? (i := 1033) (by decide +kernel), List.mem_of_getElem? (i := 1251) (by decide +kernel), List.mem_of_getElem? (i := 1252) (by decide +kernel)⟩
theorem lw_p45 : lw_okq (⟨"PulseRemoteModel", "here", "()I"⟩, 36) := ⟨⟨by decide +kernel, by decide +kernel⟩, List.mem_of_getElem? (i := 1033) (by decide +kernel), List.mem_of_getElem? (i := 1255) (by decide +kernel), List.mem_of_getElem? (i := 1256) (by decide +kernel)⟩
theorem lw_p46 : lw_okq (⟨"PulseRemoteModel", "takes", "(Z)V"⟩, 36) := ⟨⟨by decide +kernel, by decide +kernel⟩, List.mem_of_getElem? (i := 1033) (by decide +kernel), List.mem_of_getElem? (i := 1267) (by decide +kernel), List.mem_of_getElem? (i := 1268) (by decide +kernel)⟩
theorem lw_p47 : lw_okq (⟨"PulseRemoteModel", "readsProtocol", "()V"⟩, 36) := ⟨⟨by decide +kernel, by decide +kernel⟩, List.mem_of_getElem? (i := 1033) (by decide +kernel), List.mem_of_getElem? (i := 1271) (by decide +kernel), List.mem_of_getElem? (i := 1272) (by decide +kernel)⟩
def lw_privs_3 : List (MethodName × Nat) := [(⟨"PulseRemote", "explainingOffset", "(LPulseRemote$Train;LPulseRemote$Train;LPulseRemote$Train;I)I"⟩, 12), (⟨"PulseRemote", "isCollision", "(LPulseRemote$Train;I)Z"⟩, 12), (⟨"PulseRemote", "showsGhost", "(III)Z"⟩, 12), (⟨"PulseRemoteModel", "note", "()V"⟩, 36), (⟨"PulseRemoteModel", "addsProtocol", "(IIII)V"⟩, 36), (⟨"PulseRemoteModel", "setsLengths", "(IIIIII)V"⟩, 36), (⟨"PulseRemoteModel", "isProtocol", "(I)Z"⟩, 36), (⟨"PulseRemoteModel", "isCode", "(II)Z"⟩, 36), (⟨"PulseRemoteModel", "identity", "(II)I"⟩, 36), (⟨"PulseRemoteModel", "buttonOf", "(II)I"⟩, 36), (⟨"PulseRemoteModel", "addsButton", "(II)V"⟩, 36), (⟨"PulseRemoteModel", "sets", "(IIZ)I"⟩, 36), (⟨"PulseRemoteModel", "readsToken", "()V"⟩, 36), (⟨"PulseRemoteModel", "here", "()I"⟩, 36), (⟨"PulseRemoteModel", "takes", "(Z)V"⟩, 36), (⟨"PulseRemoteModel", "readsProtocol", "()V"⟩, 36)]
theorem lw_r3 : ∀ q ∈ lw_privs_3, lw_okq q := List.forall_mem_cons.mpr ⟨lw_p32, List.forall_mem_cons.mpr ⟨lw_p33, List.forall_mem_cons.mpr ⟨lw_p34, List.forall_mem_cons.mpr ⟨lw_p35, List.forall_mem_cons.mpr ⟨lw_p36, List.forall_mem_cons.mpr ⟨lw_p37, List.forall_mem_cons.mpr ⟨lw_p38, List.forall_mem_cons.mpr ⟨lw_p39, List.forall_mem_cons.mpr ⟨lw_p40, List.forall_mem_cons.mpr ⟨lw_p41, List.forall_mem_cons.mpr ⟨lw_p42, List.forall_mem_cons.mpr ⟨lw_p43, List.forall_mem_cons.mpr ⟨lw_p44, List.forall_mem_cons.mpr ⟨lw_p45, List.forall_mem_cons.mpr ⟨lw_p46, List.forall_mem_cons.mpr ⟨lw_p47, fun _ h => absurd h List.not_mem_nil⟩⟩⟩⟩⟩⟩⟩⟩⟩⟩⟩⟩⟩⟩⟩⟩
theorem lw_p48 : lw_okq (⟨"PulseRemoteModel", "takesNumber", "(II)I"⟩, 36) := ⟨⟨by decide +kernel, by decide +kernel⟩, List.mem_of_getElem? (i := 1033) (by decide +kernel), List.mem_of_getElem? (i := 1275) (by decide +kernel), List.mem_of_getElem? (i := 1276) (by decide +kernel)⟩
theorem lw_p49 : lw_okq (⟨"PulseRemoteModel", "readsButton", "()V"⟩, 36) := ⟨⟨by decide +kernel, by decide +kernel⟩, List.mem_of_getElem? (i := 1033) (by decide +kernel), List.mem_of_getElem? (i := 1279) (by decide +kernel), List.mem_of_getElem? (i := 1280) (by decide +kernel)⟩
theorem lw_p50 : lw_okq (⟨"PulseRemoteModel", "exchanges", "()V"⟩, 36) := ⟨⟨by decide +kernel, by decide +kernel⟩, List.mem_of_getElem? (i := 1033) (by decide +kernel), List.mem_of_getElem? (i := 1284) (by decide +kernel), List.mem_of_getElem? (i := 1285) (by decide +kernel)⟩
theorem lw_p51 : lw_okq (⟨"PulseRemoteModel", "makes", "(II)V"⟩, 36) := ⟨⟨by decide +kernel, by decide +kernel⟩, List.mem_of_getElem? (i := 1033) (by decide +kernel), List.mem_of_getElem? (i := 1302) (by decide +kernel), List.mem_of_getElem? (i := 1303) (by decide +kernel)⟩
theorem lw_p52 : lw_okq (⟨"PulseRemoteModel", "lays", "(ZI)V"⟩, 36) := ⟨⟨by decide +kernel, by decide +kernel⟩, List.mem_of_getElem? (i := 1033) (by decide +kernel), List.mem_of_getElem? (i := 1306) (by decide +kernel), List.mem_of_getElem? (i := 1307) (by decide +kernel)⟩
theorem lw_p53 : lw_okq (⟨"PulseRemoteModel", "isMark", "()Z"⟩, 36) := ⟨⟨by decide +kernel, by decide +kernel⟩, List.mem_of_getElem? (i := 1033) (by decide +kernel), List.mem_of_getElem? (i := 1310) (by decide +kernel), List.mem_of_getElem? (i := 1311) (by decide +kernel)⟩
theorem lw_p54 : lw_okq (⟨"PulseRemoteModel", "bit", "(III)Z"⟩, 36) := ⟨⟨by decide +kernel, by decide +kernel⟩, List.mem_of_getElem? (i := 1033) (by decide +kernel), List.mem_of_getElem? (i := 1314) (by decide +kernel), List.mem_of_getElem? (i := 1315) (by decide +kernel)⟩
theorem lw_p55 : lw_okq (⟨"PulseRemoteModel", "sends", "(II)I"⟩, 36) := ⟨⟨by decide +kernel, by decide +kernel⟩, List.mem_of_getElem? (i := 1033) (by decide +kernel), List.mem_of_getElem? (i := 1318) (by decide +kernel), List.mem_of_getElem? (i := 1319) (by decide +kernel)⟩
theorem lw_p56 : lw_okq (⟨"PulseRemoteModel", "makesShort", "(I)V"⟩, 36) := ⟨⟨by decide +kernel, by decide +kernel⟩, List.mem_of_getElem? (i := 1033) (by decide +kernel), List.mem_of_getElem? (i := 1326) (by decide +kernel), List.mem_of_getElem? (i := 1327) (by decide +kernel)⟩
theorem lw_p57 : lw_okq (⟨"PulseRemoteModel", "looksAt", "(I)V"⟩, 36) := ⟨⟨by decide +kernel, by decide +kernel⟩, List.mem_of_getElem? (i := 1033) (by decide +kernel), List.mem_of_getElem? (i := 1338) (by decide +kernel), List.mem_of_getElem? (i := 1339) (by decide +kernel)⟩
theorem lw_p58 : lw_okq (⟨"PulseRemoteModel", "overlays", "(I)V"⟩, 36) := ⟨⟨by decide +kernel, by decide +kernel⟩, List.mem_of_getElem? (i := 1033) (by decide +kernel), List.mem_of_getElem? (i := 1342) (by decide +kernel), List.mem_of_getElem? (i := 1343) (by decide +kernel)⟩
theorem lw_p59 : lw_okq (⟨"PulseRemoteModel", "opens", "(I)V"⟩, 36) := ⟨⟨by decide +kernel, by decide +kernel⟩, List.mem_of_getElem? (i := 1033) (by decide +kernel), List.mem_of_getElem? (i := 1365) (by decide +kernel), List.mem_of_getElem? (i := 1366) (by decide +kernel)⟩
theorem lw_p60 : lw_okq (⟨"PulseRemoteModel", "findsFrames", "()V"⟩, 36) := ⟨⟨by decide +kernel, by decide +kernel⟩, List.mem_of_getElem? (i := 1033) (by decide +kernel), List.mem_of_getElem? (i := 1369) (by decide +kernel), List.mem_of_getElem? (i := 1370) (by decide +kernel)⟩
theorem lw_p61 : lw_okq (⟨"PulseRemoteModel", "decodes", "(I)Z"⟩, 36) := ⟨⟨by decide +kernel, by decide +kernel⟩, List.mem_of_getElem? (i := 1033) (by decide +kernel), List.mem_of_getElem? (i := 1377) (by decide +kernel), List.mem_of_getElem? (i := 1378) (by decide +kernel)⟩
theorem lw_p62 : lw_okq (⟨"PulseRemoteModel", "codeOf", "(III)I"⟩, 36) := ⟨⟨by decide +kernel, by decide +kernel⟩, List.mem_of_getElem? (i := 1033) (by decide +kernel), List.mem_of_getElem? (i := 1381) (by decide +kernel), List.mem_of_getElem? (i := 1382) (by decide +kernel)⟩
theorem lw_p63 : lw_okq (⟨"PulseRemoteModel", "readsPhase", "(III)I"⟩, 36) := ⟨⟨by decide +kernel, by decide +kernel⟩, List.mem_of_getElem? (i := 1033) (by decide +kernel), List.mem_of_getElem? (i := 1385) (by decide +kernel), List.mem_of_getElem? (i := 1386) (by decide +kernel)⟩
def lw_privs_4 : List (MethodName × Nat) := [(⟨"PulseRemoteModel", "takesNumber", "(II)I"⟩, 36), (⟨"PulseRemoteModel", "readsButton", "()V"⟩, 36), (⟨"PulseRemoteModel", "exchanges", "()V"⟩, 36), (⟨"PulseRemoteModel", "makes", "(II)V"⟩, 36), (⟨"PulseRemoteModel", "lays", "(ZI)V"⟩, 36), (⟨"PulseRemoteModel", "isMark", "()Z"⟩, 36), (⟨"PulseRemoteModel", "bit", "(III)Z"⟩, 36), (⟨"PulseRemoteModel", "sends", "(II)I"⟩, 36), (⟨"PulseRemoteModel", "makesShort", "(I)V"⟩, 36), (⟨"PulseRemoteModel", "looksAt", "(I)V"⟩, 36), (⟨"PulseRemoteModel", "overlays", "(I)V"⟩, 36), (⟨"PulseRemoteModel", "opens", "(I)V"⟩, 36), (⟨"PulseRemoteModel", "findsFrames", "()V"⟩, 36), (⟨"PulseRemoteModel", "decodes", "(I)Z"⟩, 36), (⟨"PulseRemoteModel", "codeOf", "(III)I"⟩, 36), (⟨"PulseRemoteModel", "readsPhase", "(III)I"⟩, 36)]
theorem lw_r4 : ∀ q ∈ lw_privs_4, lw_okq q := List.forall_mem_cons.mpr ⟨lw_p48, List.forall_mem_cons.mpr ⟨lw_p49, List.forall_mem_cons.mpr ⟨lw_p50, List.forall_mem_cons.mpr ⟨lw_p51, List.forall_mem_cons.mpr ⟨lw_p52, List.forall_mem_cons.mpr ⟨lw_p53, List.forall_mem_cons.mpr ⟨lw_p54, List.forall_mem_cons.mpr ⟨lw_p55, List.forall_mem_cons.mpr ⟨lw_p56, List.forall_mem_cons.mpr ⟨lw_p57, List.forall_mem_cons.mpr ⟨lw_p58, List.forall_mem_cons.mpr ⟨lw_p59, List.forall_mem_cons.mpr ⟨lw_p60, List.forall_mem_cons.mpr ⟨lw_p61, List.forall_mem_cons.mpr ⟨lw_p62, List.forall_mem_cons.mpr ⟨lw_p63, fun _ h => absurd h List.not_mem_nil⟩⟩⟩⟩⟩⟩⟩⟩⟩⟩⟩⟩⟩⟩⟩⟩
theorem lw_p64 : lw_okq (⟨"PulseRemoteModel", "matches", "(II)Z"⟩, 36) := ⟨⟨by decide +kernel, by decide +kernel⟩, List.mem_of_getElem? (i := 1033) (by decide +kernel), List.mem_of_getElem? (i := 1389) (by decide +kernel), List.mem_of_getElem? (i := 1390) (by decide +kernel)⟩
theorem lw_p65 : lw_okq (⟨"PulseRemoteModel", "isWhole", "(IIIII)Z"⟩, 36) := ⟨⟨by decide +kernel, by decide +kernel⟩, List.mem_of_getElem? (i := 1033) (by decide +kernel), List.mem_of_getElem? (i := 1394) (by decide +kernel), List.mem_of_getElem? (i := 1395) (by decide +kernel)⟩
theorem lw_p66 : lw_okq (⟨"PulseRemoteModel", "goesOn", "(IIIIII)I"⟩, 36) := ⟨⟨by decide +kernel, by decide +kernel⟩, List.mem_of_getElem? (i := 1033) (by decide +kernel), List.mem_of_getElem? (i := 1401) (by decide +kernel), List.mem_of_getElem? (i := 1402) (by decide +kernel)⟩
theorem lw_p67 : lw_okq (⟨"PulseRemoteModel", "match", "(III)Z"⟩, 36) := ⟨⟨by decide +kernel, by decide +kernel⟩, List.mem_of_getElem? (i := 1033) (by decide +kernel), List.mem_of_getElem? (i := 1405) (by decide +kernel), List.mem_of_getElem? (i := 1406) (by decide +kernel)⟩
theorem lw_p68 : lw_okq (⟨"PulseRemoteModel", "readsBits", "(II)I"⟩, 36) := ⟨⟨by decide +kernel, by decide +kernel⟩, List.mem_of_getElem? (i := 1033) (by decide +kernel), List.mem_of_getElem? (i := 1409) (by decide +kernel), List.mem_of_getElem? (i := 1410) (by decide +kernel)⟩
theorem lw_p69 : lw_okq (⟨"PulseRemoteModel", "ordered", "(II)I"⟩, 36) := ⟨⟨by decide +kernel, by decide +kernel⟩, List.mem_of_getElem? (i := 1033) (by decide +kernel), List.mem_of_getElem? (i := 1413) (by decide +kernel), List.mem_of_getElem? (i := 1414) (by decide +kernel)⟩
theorem lw_p70 : lw_okq (⟨"PulseRemoteModel", "isShort", "(III)Z"⟩, 36) := ⟨⟨by decide +kernel, by decide +kernel⟩, List.mem_of_getElem? (i := 1033) (by decide +kernel), List.mem_of_getElem? (i := 1417) (by decide +kernel), List.mem_of_getElem? (i := 1418) (by decide +kernel)⟩
theorem lw_p71 : lw_okq (⟨"PulseRemoteModel", "findsPresses", "(I)V"⟩, 36) := ⟨⟨by decide +kernel, by decide +kernel⟩, List.mem_of_getElem? (i := 1033) (by decide +kernel), List.mem_of_getElem? (i := 1430) (by decide +kernel), List.mem_of_getElem? (i := 1431) (by decide +kernel)⟩
theorem lw_p72 : lw_okq (⟨"PulseRemoteModel", "findsClusters", "(I)V"⟩, 36) := ⟨⟨by decide +kernel, by decide +kernel⟩, List.mem_of_getElem? (i := 1033) (by decide +kernel), List.mem_of_getElem? (i := 1450) (by decide +kernel), List.mem_of_getElem? (i := 1451) (by decide +kernel)⟩
theorem lw_p73 : lw_okq (⟨"PulseRemoteModel", "meanOf", "(I)I"⟩, 36) := ⟨⟨by decide +kernel, by decide +kernel⟩, List.mem_of_getElem? (i := 1033) (by decide +kernel), List.mem_of_getElem? (i := 1458) (by decide +kernel), List.mem_of_getElem? (i := 1459) (by decide +kernel)⟩
theorem lw_p74 : lw_okq (⟨"PulseRemoteModel", "collides", "(III)V"⟩, 36) := ⟨⟨by decide +kernel, by decide +kernel⟩, List.mem_of_getElem? (i := 1033) (by decide +kernel), List.mem_of_getElem? (i := 1466) (by decide +kernel), List.mem_of_getElem? (i := 1467) (by decide +kernel)⟩
theorem lw_p75 : lw_okq (⟨"PulseRemoteModel", "isLike", "(I)Z"⟩, 36) := ⟨⟨by decide +kernel, by decide +kernel⟩, List.mem_of_getElem? (i := 1033) (by decide +kernel), List.mem_of_getElem? (i := 1470) (by decide +kernel), List.mem_of_getElem? (i := 1471) (by decide +kernel)⟩
def lw_privs_5 : List (MethodName × Nat) := [(⟨"PulseRemoteModel", "matches", "(II)Z"⟩, 36), (⟨"PulseRemoteModel", "isWhole", "(IIIII)Z"⟩, 36), (⟨"PulseRemoteModel", "goesOn", "(IIIIII)I"⟩, 36), (⟨"PulseRemoteModel", "match", "(III)Z"⟩, 36), (⟨"PulseRemoteModel", "readsBits", "(II)I"⟩, 36), (⟨"PulseRemoteModel", "ordered", "(II)I"⟩, 36), (⟨"PulseRemoteModel", "isShort", "(III)Z"⟩, 36), (⟨"PulseRemoteModel", "findsPresses", "(I)V"⟩, 36), (⟨"PulseRemoteModel", "findsClusters", "(I)V"⟩, 36), (⟨"PulseRemoteModel", "meanOf", "(I)I"⟩, 36), (⟨"PulseRemoteModel", "collides", "(III)V"⟩, 36), (⟨"PulseRemoteModel", "isLike", "(I)Z"⟩, 36)]
theorem lw_r5 : ∀ q ∈ lw_privs_5, lw_okq q := List.forall_mem_cons.mpr ⟨lw_p64, List.forall_mem_cons.mpr ⟨lw_p65, List.forall_mem_cons.mpr ⟨lw_p66, List.forall_mem_cons.mpr ⟨lw_p67, List.forall_mem_cons.mpr ⟨lw_p68, List.forall_mem_cons.mpr ⟨lw_p69, List.forall_mem_cons.mpr ⟨lw_p70, List.forall_mem_cons.mpr ⟨lw_p71, List.forall_mem_cons.mpr ⟨lw_p72, List.forall_mem_cons.mpr ⟨lw_p73, List.forall_mem_cons.mpr ⟨lw_p74, List.forall_mem_cons.mpr ⟨lw_p75, fun _ h => absurd h List.not_mem_nil⟩⟩⟩⟩⟩⟩⟩⟩⟩⟩⟩⟩
def lw_privs : List (MethodName × Nat) := lw_privs_1 ++ (lw_privs_2 ++ (lw_privs_3 ++ (lw_privs_4 ++ (lw_privs_5))))
def lw_tbl : List Cond := k2_sels lw_privs ++ tables_1
theorem lw_privs_ok : ∀ q ∈ lw_privs, lw_okq q := by
  show ∀ q ∈ lw_privs_1 ++ (lw_privs_2 ++ (lw_privs_3 ++ (lw_privs_4 ++ (lw_privs_5)))), lw_okq q
  exact List.forall_mem_append.mpr ⟨lw_r1, List.forall_mem_append.mpr ⟨lw_r2, List.forall_mem_append.mpr ⟨lw_r3, List.forall_mem_append.mpr ⟨lw_r4, lw_r5⟩⟩⟩⟩
-- ===== end of PART A; then your names; then what follows =====
def RX0 : String := "PulseRemote$Clusters"
def TX0 : u_T := fun k => match k with
  | 0 => ("PulseRemote$Clusters", "sorted", "[I", true)
  | 1 => ("PulseRemote$Clusters", "size", "I", false)
  | 2 => ("PulseRemote$Clusters", "clusterCount", "I", false)
  | 3 => ("PulseRemote$Clusters", "firstMean", "I", false)
  | _ => ("PulseRemote$Clusters", "secondMean", "I", false)
def tyX0 : Nat → FieldType := fun k => match k with
  | 0 => .array .int
  | 1 => .int
  | 2 => .int
  | 3 => .int
  | _ => .int
abbrev wsX00 : List Cond := u_ws RX0 TX0 5
theorem nmX0 : ∀ a, a < 5 → ∀ b, b < 5 → a ≠ b → (TX0 a).2.1 ≠ (TX0 b).2.1 := by decide +kernel
theorem tyX0_ok : ∀ k, k < 5 → parseFieldDescriptor (TX0 k).2.2.1 = some (tyX0 k) := by decide +kernel
abbrev cX0_init : ByteArray := prog_2_method_1_code
def yX0_init : MethodName := ⟨RX0, "<init>", "()V"⟩
abbrev cX0_makeEmpty : ByteArray := prog_2_method_2_code
def yX0_makeEmpty : MethodName := ⟨RX0, "makeEmpty", "()V"⟩
abbrev cX0_insert : ByteArray := prog_2_method_3_code
def yX0_insert : MethodName := ⟨RX0, "insert", "(I)V"⟩
abbrev cX0_cut : ByteArray := prog_2_method_4_code
def yX0_cut : MethodName := ⟨RX0, "cut", "()V"⟩
abbrev cX0_noteCluster : ByteArray := prog_2_method_5_code
def yX0_noteCluster : MethodName := ⟨RX0, "noteCluster", "(I)V"⟩
abbrev cX0_mean : ByteArray := prog_2_method_6_code
def yX0_mean : MethodName := ⟨RX0, "mean", "(II)I"⟩
def RX1 : String := "PulseRemote$Collision"
def TX1 : u_T := fun k => match k with
  | 0 => ("PulseRemote$Collision", "first", "LPulseRemote$Train;", true)
  | 1 => ("PulseRemote$Collision", "second", "LPulseRemote$Train;", true)
  | 2 => ("PulseRemote$Collision", "firstIndex", "I", false)
  | 3 => ("PulseRemote$Collision", "firstMoment", "I", false)
  | 4 => ("PulseRemote$Collision", "secondIndex", "I", false)
  | 5 => ("PulseRemote$Collision", "secondMoment", "I", false)
  | 6 => ("PulseRemote$Collision", "hasMark", "Z", false)
  | 7 => ("PulseRemote$Collision", "start", "I", false)
  | 8 => ("PulseRemote$Collision", "end", "I", false)
  | _ => ("PulseRemote$Collision", "space", "I", false)
def tyX1 : Nat → FieldType := fun k => match k with
  | 0 => .object "PulseRemote$Train"
  | 1 => .object "PulseRemote$Train"
  | 2 => .int
  | 3 => .int
  | 4 => .int
  | 5 => .int
  | 6 => .boolean
  | 7 => .int
  | 8 => .int
  | _ => .int
abbrev wsX10 : List Cond := u_ws RX1 TX1 10
theorem nmX1 : ∀ a, a < 10 → ∀ b, b < 10 → a ≠ b → (TX1 a).2.1 ≠ (TX1 b).2.1 := by decide +kernel
theorem tyX1_ok : ∀ k, k < 10 → parseFieldDescriptor (TX1 k).2.2.1 = some (tyX1 k) := by decide +kernel
abbrev cX1_init : ByteArray := prog_3_method_1_code
def yX1_init : MethodName := ⟨RX1, "<init>", "()V"⟩
abbrev cX1_lay : ByteArray := prog_3_method_2_code
def yX1_lay : MethodName := ⟨RX1, "lay", "(LPulseRemote$Train;LPulseRemote$Train;)V"⟩
abbrev cX1_begin : ByteArray := prog_3_method_3_code
def yX1_begin : MethodName := ⟨RX1, "begin", "(I)V"⟩
abbrev cX1_takeMark : ByteArray := prog_3_method_4_code
def yX1_takeMark : MethodName := ⟨RX1, "takeMark", "()V"⟩
abbrev cX1_nextDuration : ByteArray := prog_3_method_5_code
def yX1_nextDuration : MethodName := ⟨RX1, "nextDuration", "()I"⟩
abbrev cX1_writeTo : ByteArray := prog_3_method_6_code
def yX1_writeTo : MethodName := ⟨RX1, "writeTo", "(LPulseRemote$Train;)Z"⟩
def RX2 : String := "PulseRemote$Decoder"
def TX2 : u_T := fun k => match k with
  | 0 => ("PulseRemote$Decoder", "protocol", "I", false)
  | 1 => ("PulseRemote$Decoder", "code", "I", false)
  | 2 => ("PulseRemote$Decoder", "durations", "[I", true)
  | 3 => ("PulseRemote$Decoder", "size", "I", false)
  | 4 => ("PulseRemote$Decoder", "tolerance", "I", false)
  | _ => ("PulseRemote$Decoder", "open", "[J", true)
def tyX2 : Nat → FieldType := fun k => match k with
  | 0 => .int
  | 1 => .int
  | 2 => .array .int
  | 3 => .int
  | 4 => .int
  | _ => .array .long
abbrev wsX20 : List Cond := u_ws RX2 TX2 6
theorem nmX2 : ∀ a, a < 6 → ∀ b, b < 6 → a ≠ b → (TX2 a).2.1 ≠ (TX2 b).2.1 := by decide +kernel
theorem tyX2_ok : ∀ k, k < 6 → parseFieldDescriptor (TX2 k).2.2.1 = some (tyX2 k) := by decide +kernel
abbrev cX2_init : ByteArray := prog_4_method_1_code
def yX2_init : MethodName := ⟨RX2, "<init>", "()V"⟩
abbrev cX2_isDecoded : ByteArray := prog_4_method_2_code
def yX2_isDecoded : MethodName := ⟨RX2, "isDecoded", "()Z"⟩
abbrev cX2_isCode : ByteArray := prog_4_method_3_code
def yX2_isCode : MethodName := ⟨RX2, "isCode", "()Z"⟩
abbrev cX2_decode : ByteArray := prog_4_method_4_code
def yX2_decode : MethodName := ⟨RX2, "decode", "(LPulseRemote$Table;LPulseRemote$FrameList;II)V"⟩
abbrev cX2_take : ByteArray := prog_4_method_5_code
def yX2_take : MethodName := ⟨RX2, "take", "(LPulseRemote$FrameList;I)Z"⟩
abbrev cX2_protocolOfShortFrame : ByteArray := prog_4_method_6_code
def yX2_protocolOfShortFrame : MethodName := ⟨RX2, "protocolOfShortFrame", "(LPulseRemote$Table;)I"⟩
abbrev cX2_fits : ByteArray := prog_4_method_7_code
def yX2_fits : MethodName := ⟨RX2, "fits", "(II)Z"⟩
abbrev cX2_plainCode : ByteArray := prog_4_method_8_code
def yX2_plainCode : MethodName := ⟨RX2, "plainCode", "(LPulseRemote$Protocol;)I"⟩
abbrev cX2_phaseCode : ByteArray := prog_4_method_9_code
def yX2_phaseCode : MethodName := ⟨RX2, "phaseCode", "(LPulseRemote$Protocol;)I"⟩
abbrev cX2_restOfPhaseCode : ByteArray := prog_4_method_10_code
def yX2_restOfPhaseCode : MethodName := ⟨RX2, "restOfPhaseCode", "(LPulseRemote$Protocol;IJJ)I"⟩
abbrev cX2_placesOf : ByteArray := prog_4_method_11_code
def yX2_placesOf : MethodName := ⟨RX2, "placesOf", "(I)J"⟩
abbrev cX2_isIn : ByteArray := prog_4_method_12_code
def yX2_isIn : MethodName := ⟨RX2, "isIn", "(JI)Z"⟩
def RX3 : String := "PulseRemote$FrameList"
def TX3 : u_T := fun k => match k with
  | 0 => ("PulseRemote$FrameList", "starts", "[I", true)
  | 1 => ("PulseRemote$FrameList", "sizes", "[I", true)
  | 2 => ("PulseRemote$FrameList", "total", "I", false)
  | _ => ("PulseRemote$FrameList", "train", "LPulseRemote$Train;", true)
def tyX3 : Nat → FieldType := fun k => match k with
  | 0 => .array .int
  | 1 => .array .int
  | 2 => .int
  | _ => .object "PulseRemote$Train"
abbrev wsX30 : List Cond := u_ws RX3 TX3 4
theorem nmX3 : ∀ a, a < 4 → ∀ b, b < 4 → a ≠ b → (TX3 a).2.1 ≠ (TX3 b).2.1 := by decide +kernel
theorem tyX3_ok : ∀ k, k < 4 → parseFieldDescriptor (TX3 k).2.2.1 = some (tyX3 k) := by decide +kernel
abbrev cX3_init : ByteArray := prog_5_method_1_code
def yX3_init : MethodName := ⟨RX3, "<init>", "()V"⟩
abbrev cX3_split : ByteArray := prog_5_method_2_code
def yX3_split : MethodName := ⟨RX3, "split", "(LPulseRemote$Train;I)V"⟩
abbrev cX3_note : ByteArray := prog_5_method_3_code
def yX3_note : MethodName := ⟨RX3, "note", "(II)V"⟩
abbrev cX3_startOf : ByteArray := prog_5_method_4_code
def yX3_startOf : MethodName := ⟨RX3, "startOf", "(I)I"⟩
abbrev cX3_sizeOf : ByteArray := prog_5_method_5_code
def yX3_sizeOf : MethodName := ⟨RX3, "sizeOf", "(I)I"⟩
abbrev cX3_durationAt : ByteArray := prog_5_method_6_code
def yX3_durationAt : MethodName := ⟨RX3, "durationAt", "(II)I"⟩
abbrev cX3_spaceBefore : ByteArray := prog_5_method_7_code
def yX3_spaceBefore : MethodName := ⟨RX3, "spaceBefore", "(I)I"⟩
def RX4 : String := "PulseRemote$Learner"
def TX4 : u_T := fun k => match k with
  | 0 => ("PulseRemote$Learner", "marks", "LPulseRemote$Clusters;", true)
  | 1 => ("PulseRemote$Learner", "spaces", "LPulseRemote$Clusters;", true)
  | 2 => ("PulseRemote$Learner", "size", "I", false)
  | 3 => ("PulseRemote$Learner", "headerMark", "I", false)
  | 4 => ("PulseRemote$Learner", "headerSpace", "I", false)
  | 5 => ("PulseRemote$Learner", "kind", "I", false)
  | 6 => ("PulseRemote$Learner", "bits", "I", false)
  | 7 => ("PulseRemote$Learner", "a", "I", false)
  | 8 => ("PulseRemote$Learner", "b", "I", false)
  | _ => ("PulseRemote$Learner", "c", "I", false)
def tyX4 : Nat → FieldType := fun k => match k with
  | 0 => .object "PulseRemote$Clusters"
  | 1 => .object "PulseRemote$Clusters"
  | 2 => .int
  | 3 => .int
  | 4 => .int
  | 5 => .int
  | 6 => .int
  | 7 => .int
  | 8 => .int
  | _ => .int
abbrev wsX40 : List Cond := u_ws RX4 TX4 10
theorem nmX4 : ∀ a, a < 10 → ∀ b, b < 10 → a ≠ b → (TX4 a).2.1 ≠ (TX4 b).2.1 := by decide +kernel
theorem tyX4_ok : ∀ k, k < 10 → parseFieldDescriptor (TX4 k).2.2.1 = some (tyX4 k) := by decide +kernel
abbrev cX4_init : ByteArray := prog_6_method_1_code
def yX4_init : MethodName := ⟨RX4, "<init>", "()V"⟩
abbrev cX4_gather : ByteArray := prog_6_method_2_code
def yX4_gather : MethodName := ⟨RX4, "gather", "(LPulseRemote$FrameList;)Z"⟩
abbrev cX4_insertAll : ByteArray := prog_6_method_3_code
def yX4_insertAll : MethodName := ⟨RX4, "insertAll", "(LPulseRemote$FrameList;I)V"⟩
abbrev cX4_conclude : ByteArray := prog_6_method_4_code
def yX4_conclude : MethodName := ⟨RX4, "conclude", "()Z"⟩
abbrev cX4_makeProtocol : ByteArray := prog_6_method_5_code
def yX4_makeProtocol : MethodName := ⟨RX4, "makeProtocol", "(IILPulseRemote$Clusters;LPulseRemote$Clusters;)Z"⟩
def RX5 : String := "PulseRemote$PressList"
def TX5 : u_T := fun k => match k with
  | 0 => ("PulseRemote$PressList", "protocols", "[I", true)
  | 1 => ("PulseRemote$PressList", "codes", "[I", true)
  | 2 => ("PulseRemote$PressList", "counts", "[I", true)
  | 3 => ("PulseRemote$PressList", "listed", "I", false)
  | 4 => ("PulseRemote$PressList", "strays", "I", false)
  | 5 => ("PulseRemote$PressList", "latestIsListed", "Z", false)
  | 6 => ("PulseRemote$PressList", "latestProtocol", "I", false)
  | _ => ("PulseRemote$PressList", "latestCode", "I", false)
def tyX5 : Nat → FieldType := fun k => match k with
  | 0 => .array .int
  | 1 => .array .int
  | 2 => .array .int
  | 3 => .int
  | 4 => .int
  | 5 => .boolean
  | 6 => .int
  | _ => .int
abbrev wsX50 : List Cond := u_ws RX5 TX5 8
theorem nmX5 : ∀ a, a < 8 → ∀ b, b < 8 → a ≠ b → (TX5 a).2.1 ≠ (TX5 b).2.1 := by decide +kernel
theorem tyX5_ok : ∀ k, k < 8 → parseFieldDescriptor (TX5 k).2.2.1 = some (tyX5 k) := by decide +kernel
abbrev cX5_init : ByteArray := prog_7_method_1_code
def yX5_init : MethodName := ⟨RX5, "<init>", "()V"⟩
abbrev cX5_find : ByteArray := prog_7_method_2_code
def yX5_find : MethodName := ⟨RX5, "find", "(LPulseRemote$State;ILPulseRemote$FrameList;LPulseRemote$Decoder;)V"⟩
abbrev cX5_continuesLatest : ByteArray := prog_7_method_3_code
def yX5_continuesLatest : MethodName := ⟨RX5, "continuesLatest", "(LPulseRemote$Decoder;LPulseRemote$Table;)Z"⟩
abbrev cX5_countLatest : ByteArray := prog_7_method_4_code
def yX5_countLatest : MethodName := ⟨RX5, "countLatest", "()V"⟩
abbrev cX5_begin : ByteArray := prog_7_method_5_code
def yX5_begin : MethodName := ⟨RX5, "begin", "(LPulseRemote$Decoder;)V"⟩
def RX6 : String := "PulseRemote$Protocol"
def TX6 : u_T := fun k => match k with
  | 0 => ("PulseRemote$Protocol", "kind", "I", false)
  | 1 => ("PulseRemote$Protocol", "headerMark", "I", false)
  | 2 => ("PulseRemote$Protocol", "headerSpace", "I", false)
  | 3 => ("PulseRemote$Protocol", "a", "I", false)
  | 4 => ("PulseRemote$Protocol", "b", "I", false)
  | 5 => ("PulseRemote$Protocol", "c", "I", false)
  | 6 => ("PulseRemote$Protocol", "bits", "I", false)
  | 7 => ("PulseRemote$Protocol", "order", "I", false)
  | _ => ("PulseRemote$Protocol", "repetition", "I", false)
def tyX6 : Nat → FieldType := fun k => match k with
  | 0 => .int
  | 1 => .int
  | 2 => .int
  | 3 => .int
  | 4 => .int
  | 5 => .int
  | 6 => .int
  | 7 => .int
  | _ => .int
abbrev wsX60 : List Cond := u_ws RX6 TX6 9
theorem nmX6 : ∀ a, a < 9 → ∀ b, b < 9 → a ≠ b → (TX6 a).2.1 ≠ (TX6 b).2.1 := by decide +kernel
theorem tyX6_ok : ∀ k, k < 9 → parseFieldDescriptor (TX6 k).2.2.1 = some (tyX6 k) := by decide +kernel
abbrev cX6_init : ByteArray := prog_8_method_1_code
def yX6_init : MethodName := ⟨RX6, "<init>", "()V"⟩
abbrev cX6_useShape : ByteArray := prog_8_method_2_code
def yX6_useShape : MethodName := ⟨RX6, "useShape", "(IIII)V"⟩
abbrev cX6_useLengths : ByteArray := prog_8_method_3_code
def yX6_useLengths : MethodName := ⟨RX6, "useLengths", "(IIIII)V"⟩
abbrev cX6_copyFrom : ByteArray := prog_8_method_4_code
def yX6_copyFrom : MethodName := ⟨RX6, "copyFrom", "(LPulseRemote$Protocol;)V"⟩
abbrev cX6_hasCode : ByteArray := prog_8_method_5_code
def yX6_hasCode : MethodName := ⟨RX6, "hasCode", "(I)Z"⟩
abbrev cX6_maskAt : ByteArray := prog_8_method_6_code
def yX6_maskAt : MethodName := ⟨RX6, "maskAt", "(I)I"⟩
abbrev cX6_identityOf : ByteArray := prog_8_method_7_code
def yX6_identityOf : MethodName := ⟨RX6, "identityOf", "(I)I"⟩
abbrev cX6_writeFrame : ByteArray := prog_8_method_8_code
def yX6_writeFrame : MethodName := ⟨RX6, "writeFrame", "(ILPulseRemote$Train;)V"⟩
abbrev cX6_writeBit : ByteArray := prog_8_method_9_code
def yX6_writeBit : MethodName := ⟨RX6, "writeBit", "(ZILPulseRemote$Train;)V"⟩
abbrev cX6_writeShortFrame : ByteArray := prog_8_method_10_code
def yX6_writeShortFrame : MethodName := ⟨RX6, "writeShortFrame", "(LPulseRemote$Train;)V"⟩
def RX7 : String := "PulseRemote$State"
def TX7 : u_T := fun k => match k with
  | 0 => ("PulseRemote$State", "table", "LPulseRemote$Table;", true)
  | 1 => ("PulseRemote$State", "trains", "[LPulseRemote$Train;", true)
  | 2 => ("PulseRemote$State", "gap", "I", false)
  | 3 => ("PulseRemote$State", "hold", "I", false)
  | _ => ("PulseRemote$State", "tolerance", "I", false)
def tyX7 : Nat → FieldType := fun k => match k with
  | 0 => .object "PulseRemote$Table"
  | 1 => .array (.object "PulseRemote$Train")
  | 2 => .int
  | 3 => .int
  | _ => .int
abbrev wsX70 : List Cond := u_ws RX7 TX7 5
theorem nmX7 : ∀ a, a < 5 → ∀ b, b < 5 → a ≠ b → (TX7 a).2.1 ≠ (TX7 b).2.1 := by decide +kernel
theorem tyX7_ok : ∀ k, k < 5 → parseFieldDescriptor (TX7 k).2.2.1 = some (tyX7 k) := by decide +kernel
abbrev cX7_init : ByteArray := prog_9_method_1_code
def yX7_init : MethodName := ⟨RX7, "<init>", "()V"⟩
abbrev cX7_trainAt : ByteArray := prog_9_method_2_code
def yX7_trainAt : MethodName := ⟨RX7, "trainAt", "(I)LPulseRemote$Train;"⟩
abbrev cX7_copyFrom : ByteArray := prog_9_method_3_code
def yX7_copyFrom : MethodName := ⟨RX7, "copyFrom", "(LPulseRemote$State;)V"⟩
def RX8 : String := "PulseRemote$Table"
def TX8 : u_T := fun k => match k with
  | 0 => ("PulseRemote$Table", "protocols", "[LPulseRemote$Protocol;", true)
  | 1 => ("PulseRemote$Table", "protocolCount", "I", false)
  | 2 => ("PulseRemote$Table", "buttonProtocols", "[I", true)
  | 3 => ("PulseRemote$Table", "buttonIdentities", "[I", true)
  | _ => ("PulseRemote$Table", "buttonCount", "I", false)
def tyX8 : Nat → FieldType := fun k => match k with
  | 0 => .array (.object "PulseRemote$Protocol")
  | 1 => .int
  | 2 => .array .int
  | 3 => .array .int
  | _ => .int
abbrev wsX80 : List Cond := u_ws RX8 TX8 5
theorem nmX8 : ∀ a, a < 5 → ∀ b, b < 5 → a ≠ b → (TX8 a).2.1 ≠ (TX8 b).2.1 := by decide +kernel
theorem tyX8_ok : ∀ k, k < 5 → parseFieldDescriptor (TX8 k).2.2.1 = some (tyX8 k) := by decide +kernel
abbrev cX8_init : ByteArray := prog_10_method_1_code
def yX8_init : MethodName := ⟨RX8, "<init>", "()V"⟩
abbrev cX8_copyFrom : ByteArray := prog_10_method_2_code
def yX8_copyFrom : MethodName := ⟨RX8, "copyFrom", "(LPulseRemote$Table;)V"⟩
abbrev cX8_makeEmpty : ByteArray := prog_10_method_3_code
def yX8_makeEmpty : MethodName := ⟨RX8, "makeEmpty", "()V"⟩
abbrev cX8_hasProtocol : ByteArray := prog_10_method_4_code
def yX8_hasProtocol : MethodName := ⟨RX8, "hasProtocol", "(I)Z"⟩
abbrev cX8_protocolAt : ByteArray := prog_10_method_5_code
def yX8_protocolAt : MethodName := ⟨RX8, "protocolAt", "(I)LPulseRemote$Protocol;"⟩
abbrev cX8_protocolsFull : ByteArray := prog_10_method_6_code
def yX8_protocolsFull : MethodName := ⟨RX8, "protocolsFull", "()Z"⟩
abbrev cX8_newProtocol : ByteArray := prog_10_method_7_code
def yX8_newProtocol : MethodName := ⟨RX8, "newProtocol", "(IIII)I"⟩
abbrev cX8_hasButton : ByteArray := prog_10_method_8_code
def yX8_hasButton : MethodName := ⟨RX8, "hasButton", "(I)Z"⟩
abbrev cX8_buttonsFull : ByteArray := prog_10_method_9_code
def yX8_buttonsFull : MethodName := ⟨RX8, "buttonsFull", "()Z"⟩
abbrev cX8_newButton : ByteArray := prog_10_method_10_code
def yX8_newButton : MethodName := ⟨RX8, "newButton", "(II)I"⟩
abbrev cX8_protocolOfButton : ByteArray := prog_10_method_11_code
def yX8_protocolOfButton : MethodName := ⟨RX8, "protocolOfButton", "(I)I"⟩
abbrev cX8_identityOfButton : ByteArray := prog_10_method_12_code
def yX8_identityOfButton : MethodName := ⟨RX8, "identityOfButton", "(I)I"⟩
abbrev cX8_findButton : ByteArray := prog_10_method_13_code
def yX8_findButton : MethodName := ⟨RX8, "findButton", "(II)I"⟩
abbrev cX8_findButtonOf : ByteArray := prog_10_method_14_code
def yX8_findButtonOf : MethodName := ⟨RX8, "findButtonOf", "(II)I"⟩
def RX9 : String := "PulseRemote$Text"
def TX9 : u_T := fun k => match k with
  | 0 => ("PulseRemote$Text", "characters", "[C", true)
  | 1 => ("PulseRemote$Text", "size", "I", false)
  | 2 => ("PulseRemote$Text", "tokenKind", "I", false)
  | 3 => ("PulseRemote$Text", "tokenStart", "I", false)
  | _ => ("PulseRemote$Text", "tokenEnd", "I", false)
def tyX9 : Nat → FieldType := fun k => match k with
  | 0 => .array .char
  | 1 => .int
  | 2 => .int
  | 3 => .int
  | _ => .int
abbrev wsX90 : List Cond := u_ws RX9 TX9 5
theorem nmX9 : ∀ a, a < 5 → ∀ b, b < 5 → a ≠ b → (TX9 a).2.1 ≠ (TX9 b).2.1 := by decide +kernel
theorem tyX9_ok : ∀ k, k < 5 → parseFieldDescriptor (TX9 k).2.2.1 = some (tyX9 k) := by decide +kernel
abbrev cX9_init : ByteArray := prog_11_method_1_code
def yX9_init : MethodName := ⟨RX9, "<init>", "()V"⟩
abbrev cX9_put : ByteArray := prog_11_method_2_code
def yX9_put : MethodName := ⟨RX9, "put", "(C)V"⟩
abbrev cX9_at : ByteArray := prog_11_method_3_code
def yX9_at : MethodName := ⟨RX9, "at", "(I)C"⟩
abbrev cX9_readTable : ByteArray := prog_11_method_4_code
def yX9_readTable : MethodName := ⟨RX9, "readTable", "(LPulseRemote$Table;)I"⟩
abbrev cX9_readItem : ByteArray := prog_11_method_5_code
def yX9_readItem : MethodName := ⟨RX9, "readItem", "(LPulseRemote$Table;)Z"⟩
abbrev cX9_readProtocol : ByteArray := prog_11_method_6_code
def yX9_readProtocol : MethodName := ⟨RX9, "readProtocol", "(LPulseRemote$Table;)Z"⟩
abbrev cX9_readButton : ByteArray := prog_11_method_7_code
def yX9_readButton : MethodName := ⟨RX9, "readButton", "(LPulseRemote$Table;)Z"⟩
abbrev cX9_readEnd : ByteArray := prog_11_method_8_code
def yX9_readEnd : MethodName := ⟨RX9, "readEnd", "()Z"⟩
abbrev cX9_readNumber : ByteArray := prog_11_method_9_code
def yX9_readNumber : MethodName := ⟨RX9, "readNumber", "(II)I"⟩
abbrev cX9_isWord : ByteArray := prog_11_method_10_code
def yX9_isWord : MethodName := ⟨RX9, "isWord", "(Ljava/lang/String;)Z"⟩
abbrev cX9_takeToken : ByteArray := prog_11_method_11_code
def yX9_takeToken : MethodName := ⟨RX9, "takeToken", "()V"⟩
abbrev cX9_kindAt : ByteArray := prog_11_method_12_code
def yX9_kindAt : MethodName := ⟨RX9, "kindAt", "(I)I"⟩
def RX10 : String := "PulseRemote$Train"
def TX10 : u_T := fun k => match k with
  | 0 => ("PulseRemote$Train", "durations", "[I", true)
  | _ => ("PulseRemote$Train", "size", "I", false)
def tyX10 : Nat → FieldType := fun k => match k with
  | 0 => .array .int
  | _ => .int
abbrev wsX100 : List Cond := u_ws RX10 TX10 2
theorem nmX10 : ∀ a, a < 2 → ∀ b, b < 2 → a ≠ b → (TX10 a).2.1 ≠ (TX10 b).2.1 := by decide +kernel
theorem tyX10_ok : ∀ k, k < 2 → parseFieldDescriptor (TX10 k).2.2.1 = some (tyX10 k) := by decide +kernel
abbrev cX10_init : ByteArray := prog_12_method_1_code
def yX10_init : MethodName := ⟨RX10, "<init>", "()V"⟩
abbrev cX10_at : ByteArray := prog_12_method_2_code
def yX10_at : MethodName := ⟨RX10, "at", "(I)I"⟩
abbrev cX10_put : ByteArray := prog_12_method_3_code
def yX10_put : MethodName := ⟨RX10, "put", "(I)V"⟩
abbrev cX10_endsWithMark : ByteArray := prog_12_method_4_code
def yX10_endsWithMark : MethodName := ⟨RX10, "endsWithMark", "()Z"⟩
abbrev cX10_join : ByteArray := prog_12_method_5_code
def yX10_join : MethodName := ⟨RX10, "join", "(ZI)V"⟩
abbrev cX10_longest : ByteArray := prog_12_method_6_code
def yX10_longest : MethodName := ⟨RX10, "longest", "()I"⟩
abbrev cX10_stretch : ByteArray := prog_12_method_7_code
def yX10_stretch : MethodName := ⟨RX10, "stretch", "(I)I"⟩
abbrev cX10_copyFrom : ByteArray := prog_12_method_8_code
def yX10_copyFrom : MethodName := ⟨RX10, "copyFrom", "(LPulseRemote$Train;)V"⟩
def RX11 : String := "PulseRemote"
def TX11 : u_T := fun k => match k with
  | 0 => ("PulseRemote", "state", "LPulseRemote$State;", false)
  | 1 => ("PulseRemote", "saved", "[LPulseRemote$State;", true)
  | 2 => ("PulseRemote", "savedCount", "I", false)
  | 3 => ("PulseRemote", "text", "LPulseRemote$Text;", true)
  | 4 => ("PulseRemote", "draft", "LPulseRemote$Table;", true)
  | 5 => ("PulseRemote", "scratch", "LPulseRemote$Train;", true)
  | 6 => ("PulseRemote", "buttonFrames", "[LPulseRemote$Train;", true)
  | 7 => ("PulseRemote", "frames", "LPulseRemote$FrameList;", true)
  | 8 => ("PulseRemote", "decoder", "LPulseRemote$Decoder;", true)
  | 9 => ("PulseRemote", "presses", "LPulseRemote$PressList;", true)
  | 10 => ("PulseRemote", "learner", "LPulseRemote$Learner;", true)
  | _ => ("PulseRemote", "collision", "LPulseRemote$Collision;", true)
def tyX11 : Nat → FieldType := fun k => match k with
  | 0 => .object "PulseRemote$State"
  | 1 => .array (.object "PulseRemote$State")
  | 2 => .int
  | 3 => .object "PulseRemote$Text"
  | 4 => .object "PulseRemote$Table"
  | 5 => .object "PulseRemote$Train"
  | 6 => .array (.object "PulseRemote$Train")
  | 7 => .object "PulseRemote$FrameList"
  | 8 => .object "PulseRemote$Decoder"
  | 9 => .object "PulseRemote$PressList"
  | 10 => .object "PulseRemote$Learner"
  | _ => .object "PulseRemote$Collision"
abbrev wsX110 : List Cond := u_ws RX11 TX11 12
theorem nmX11 : ∀ a, a < 12 → ∀ b, b < 12 → a ≠ b → (TX11 a).2.1 ≠ (TX11 b).2.1 := by decide +kernel
theorem tyX11_ok : ∀ k, k < 12 → parseFieldDescriptor (TX11 k).2.2.1 = some (tyX11 k) := by decide +kernel
abbrev cX11_init : ByteArray := prog_1_method_1_code
def yX11_init : MethodName := ⟨RX11, "<init>", "()V"⟩
abbrev cX11_addProtocol : ByteArray := prog_1_method_2_code
def yX11_addProtocol : MethodName := ⟨RX11, "addProtocol", "(IIII)I"⟩
abbrev cX11_setLengths : ByteArray := prog_1_method_3_code
def yX11_setLengths : MethodName := ⟨RX11, "setLengths", "(IIIIII)I"⟩
abbrev cX11_protocol : ByteArray := prog_1_method_4_code
def yX11_protocol : MethodName := ⟨RX11, "protocol", "(II)I"⟩
abbrev cX11_count : ByteArray := prog_1_method_5_code
def yX11_count : MethodName := ⟨RX11, "count", "(I)I"⟩
abbrev cX11_learn : ByteArray := prog_1_method_6_code
def yX11_learn : MethodName := ⟨RX11, "learn", "(I)I"⟩
abbrev cX11_clusters : ByteArray := prog_1_method_7_code
def yX11_clusters : MethodName := ⟨RX11, "clusters", "(II)I"⟩
abbrev cX11_addButton : ByteArray := prog_1_method_8_code
def yX11_addButton : MethodName := ⟨RX11, "addButton", "(II)I"⟩
abbrev cX11_button : ByteArray := prog_1_method_9_code
def yX11_button : MethodName := ⟨RX11, "button", "(II)I"⟩
abbrev cX11_setGap : ByteArray := prog_1_method_10_code
def yX11_setGap : MethodName := ⟨RX11, "setGap", "(I)I"⟩
abbrev cX11_setHold : ByteArray := prog_1_method_11_code
def yX11_setHold : MethodName := ⟨RX11, "setHold", "(I)I"⟩
abbrev cX11_setTolerance : ByteArray := prog_1_method_12_code
def yX11_setTolerance : MethodName := ⟨RX11, "setTolerance", "(I)I"⟩
abbrev cX11_appendCharacter : ByteArray := prog_1_method_13_code
def yX11_appendCharacter : MethodName := ⟨RX11, "appendCharacter", "(I)I"⟩
abbrev cX11_clearText : ByteArray := prog_1_method_14_code
def yX11_clearText : MethodName := ⟨RX11, "clearText", "()I"⟩
abbrev cX11_load : ByteArray := prog_1_method_15_code
def yX11_load : MethodName := ⟨RX11, "load", "()I"⟩
abbrev cX11_append : ByteArray := prog_1_method_16_code
def yX11_append : MethodName := ⟨RX11, "append", "(II)I"⟩
abbrev cX11_send : ByteArray := prog_1_method_17_code
def yX11_send : MethodName := ⟨RX11, "send", "(IIII)I"⟩
abbrev cX11_sendShort : ByteArray := prog_1_method_18_code
def yX11_sendShort : MethodName := ⟨RX11, "sendShort", "(III)I"⟩
abbrev cX11_clear : ByteArray := prog_1_method_19_code
def yX11_clear : MethodName := ⟨RX11, "clear", "(I)I"⟩
abbrev cX11_overlay : ByteArray := prog_1_method_20_code
def yX11_overlay : MethodName := ⟨RX11, "overlay", "(III)I"⟩
abbrev cX11_distort : ByteArray := prog_1_method_21_code
def yX11_distort : MethodName := ⟨RX11, "distort", "(III)I"⟩
abbrev cX11_duration : ByteArray := prog_1_method_22_code
def yX11_duration : MethodName := ⟨RX11, "duration", "(II)I"⟩
abbrev cX11_length : ByteArray := prog_1_method_23_code
def yX11_length : MethodName := ⟨RX11, "length", "(I)I"⟩
abbrev cX11_frameCount : ByteArray := prog_1_method_24_code
def yX11_frameCount : MethodName := ⟨RX11, "frameCount", "(I)I"⟩
abbrev cX11_frame : ByteArray := prog_1_method_25_code
def yX11_frame : MethodName := ⟨RX11, "frame", "(III)I"⟩
abbrev cX11_deviation : ByteArray := prog_1_method_26_code
def yX11_deviation : MethodName := ⟨RX11, "deviation", "(II)I"⟩
abbrev cX11_pressCount : ByteArray := prog_1_method_27_code
def yX11_pressCount : MethodName := ⟨RX11, "pressCount", "(I)I"⟩
abbrev cX11_press : ByteArray := prog_1_method_28_code
def yX11_press : MethodName := ⟨RX11, "press", "(III)I"⟩
abbrev cX11_strayCount : ByteArray := prog_1_method_29_code
def yX11_strayCount : MethodName := ⟨RX11, "strayCount", "(I)I"⟩
abbrev cX11_neededTolerance : ByteArray := prog_1_method_30_code
def yX11_neededTolerance : MethodName := ⟨RX11, "neededTolerance", "(I)I"⟩
abbrev cX11_explain : ByteArray := prog_1_method_31_code
def yX11_explain : MethodName := ⟨RX11, "explain", "(III)I"⟩
abbrev cX11_ghosts : ByteArray := prog_1_method_32_code
def yX11_ghosts : MethodName := ⟨RX11, "ghosts", "(I)I"⟩
abbrev cX11_undo : ByteArray := prog_1_method_33_code
def yX11_undo : MethodName := ⟨RX11, "undo", "()I"⟩
abbrev cX11_inRange : ByteArray := prog_1_method_34_code
def yX11_inRange : MethodName := ⟨RX11, "inRange", "(III)Z"⟩
abbrev cX11_isSlot : ByteArray := prog_1_method_35_code
def yX11_isSlot : MethodName := ⟨RX11, "isSlot", "(I)Z"⟩
abbrev cX11_isLength : ByteArray := prog_1_method_36_code
def yX11_isLength : MethodName := ⟨RX11, "isLength", "(I)Z"⟩
abbrev cX11_lengthsPossible : ByteArray := prog_1_method_37_code
def yX11_lengthsPossible : MethodName := ⟨RX11, "lengthsPossible", "(IIIIII)Z"⟩
abbrev cX11_matches : ByteArray := prog_1_method_38_code
def yX11_matches : MethodName := ⟨RX11, "matches", "(III)Z"⟩
abbrev cX11_saveState : ByteArray := prog_1_method_39_code
def yX11_saveState : MethodName := ⟨RX11, "saveState", "()V"⟩
abbrev cX11_appendScratch : ByteArray := prog_1_method_40_code
def yX11_appendScratch : MethodName := ⟨RX11, "appendScratch", "(LPulseRemote$Train;I)I"⟩
abbrev cX11_worstDeviation : ByteArray := prog_1_method_41_code
def yX11_worstDeviation : MethodName := ⟨RX11, "worstDeviation", "(ILPulseRemote$Train;)I"⟩
abbrev cX11_toleranceFor : ByteArray := prog_1_method_42_code
def yX11_toleranceFor : MethodName := ⟨RX11, "toleranceFor", "(II)I"⟩
abbrev cX11_writeButtonFrames : ByteArray := prog_1_method_43_code
def yX11_writeButtonFrames : MethodName := ⟨RX11, "writeButtonFrames", "()V"⟩
abbrev cX11_buttonFrameAt : ByteArray := prog_1_method_44_code
def yX11_buttonFrameAt : MethodName := ⟨RX11, "buttonFrameAt", "(I)LPulseRemote$Train;"⟩
abbrev cX11_explainingOffset : ByteArray := prog_1_method_45_code
def yX11_explainingOffset : MethodName := ⟨RX11, "explainingOffset", "(LPulseRemote$Train;LPulseRemote$Train;LPulseRemote$Train;I)I"⟩
abbrev cX11_isCollision : ByteArray := prog_1_method_46_code
def yX11_isCollision : MethodName := ⟨RX11, "isCollision", "(LPulseRemote$Train;I)Z"⟩
abbrev cX11_showsGhost : ByteArray := prog_1_method_47_code
def yX11_showsGhost : MethodName := ⟨RX11, "showsGhost", "(III)Z"⟩
def RX12 : String := "PulseRemoteModel"
def TX12 : u_T := fun k => match k with
  | 0 => ("PulseRemoteModel", "s", "[I", true)
  | 1 => ("PulseRemoteModel", "past", "[I", true)
  | 2 => ("PulseRemoteModel", "pasts", "I", false)
  | 3 => ("PulseRemoteModel", "text", "[B", true)
  | 4 => ("PulseRemoteModel", "typed", "I", false)
  | 5 => ("PulseRemoteModel", "next", "I", false)
  | 6 => ("PulseRemoteModel", "begin", "I", false)
  | 7 => ("PulseRemoteModel", "kind", "I", false)
  | 8 => ("PulseRemoteModel", "told", "J", false)
  | 9 => ("PulseRemoteModel", "isWrong", "Z", false)
  | 10 => ("PulseRemoteModel", "before", "[I", true)
  | 11 => ("PulseRemoteModel", "made", "[I", true)
  | 12 => ("PulseRemoteModel", "mades", "I", false)
  | 13 => ("PulseRemoteModel", "d", "[I", true)
  | 14 => ("PulseRemoteModel", "n", "I", false)
  | 15 => ("PulseRemoteModel", "other", "[I", true)
  | 16 => ("PulseRemoteModel", "others", "I", false)
  | 17 => ("PulseRemoteModel", "from", "[I", true)
  | 18 => ("PulseRemoteModel", "to", "[I", true)
  | 19 => ("PulseRemoteModel", "first", "[I", true)
  | 20 => ("PulseRemoteModel", "many", "[I", true)
  | 21 => ("PulseRemoteModel", "frames", "I", false)
  | 22 => ("PulseRemoteModel", "tolerance", "I", false)
  | 23 => ("PulseRemoteModel", "isDead", "[Z", true)
  | 24 => ("PulseRemoteModel", "chosen", "[I", true)
  | 25 => ("PulseRemoteModel", "run", "[I", true)
  | 26 => ("PulseRemoteModel", "decodedTo", "I", false)
  | 27 => ("PulseRemoteModel", "code", "I", false)
  | 28 => ("PulseRemoteModel", "isShortFrame", "Z", false)
  | 29 => ("PulseRemoteModel", "press", "[I", true)
  | 30 => ("PulseRemoteModel", "presses", "I", false)
  | 31 => ("PulseRemoteModel", "strays", "I", false)
  | 32 => ("PulseRemoteModel", "sorted", "[I", true)
  | 33 => ("PulseRemoteModel", "sorteds", "I", false)
  | 34 => ("PulseRemoteModel", "clusterMany", "I", false)
  | _ => ("PulseRemoteModel", "mean", "[I", true)
def tyX12 : Nat → FieldType := fun k => match k with
  | 0 => .array .int
  | 1 => .array .int
  | 2 => .int
  | 3 => .array .byte
  | 4 => .int
  | 5 => .int
  | 6 => .int
  | 7 => .int
  | 8 => .long
  | 9 => .boolean
  | 10 => .array .int
  | 11 => .array .int
  | 12 => .int
  | 13 => .array .int
  | 14 => .int
  | 15 => .array .int
  | 16 => .int
  | 17 => .array .int
  | 18 => .array .int
  | 19 => .array .int
  | 20 => .array .int
  | 21 => .int
  | 22 => .int
  | 23 => .array .boolean
  | 24 => .array .int
  | 25 => .array .int
  | 26 => .int
  | 27 => .int
  | 28 => .boolean
  | 29 => .array .int
  | 30 => .int
  | 31 => .int
  | 32 => .array .int
  | 33 => .int
  | 34 => .int
  | _ => .array .int
abbrev wsX120 : List Cond := u_ws RX12 TX12 36
theorem nmX12 : ∀ a, a < 36 → ∀ b, b < 36 → a ≠ b → (TX12 a).2.1 ≠ (TX12 b).2.1 := by decide +kernel
theorem tyX12_ok : ∀ k, k < 36 → parseFieldDescriptor (TX12 k).2.2.1 = some (tyX12 k) := by decide +kernel
abbrev cX12_init : ByteArray := prog_14_method_1_code
def yX12_init : MethodName := ⟨RX12, "<init>", "()V"⟩
abbrev cX12_in : ByteArray := prog_14_method_3_code
def yX12_in : MethodName := ⟨RX12, "in", "(III)Z"⟩
abbrev cX12_note : ByteArray := prog_14_method_4_code
def yX12_note : MethodName := ⟨RX12, "note", "()V"⟩
abbrev cX12_undo : ByteArray := prog_14_method_5_code
def yX12_undo : MethodName := ⟨RX12, "undo", "()I"⟩
abbrev cX12_isSlot : ByteArray := prog_14_method_6_code
def yX12_isSlot : MethodName := ⟨RX12, "isSlot", "(I)Z"⟩
abbrev cX12_isProtocol : ByteArray := prog_14_method_7_code
def yX12_isProtocol : MethodName := ⟨RX12, "isProtocol", "(I)Z"⟩
abbrev cX12_at : ByteArray := prog_14_method_8_code
def yX12_at : MethodName := ⟨RX12, "at", "(I)I"⟩
abbrev cX12_isCode : ByteArray := prog_14_method_9_code
def yX12_isCode : MethodName := ⟨RX12, "isCode", "(II)Z"⟩
abbrev cX12_isLength : ByteArray := prog_14_method_10_code
def yX12_isLength : MethodName := ⟨RX12, "isLength", "(I)Z"⟩
abbrev cX12_areLengths : ByteArray := prog_14_method_11_code
def yX12_areLengths : MethodName := ⟨RX12, "areLengths", "(IIIIII)Z"⟩
abbrev cX12_addsProtocol : ByteArray := prog_14_method_12_code
def yX12_addsProtocol : MethodName := ⟨RX12, "addsProtocol", "(IIII)V"⟩
abbrev cX12_setsLengths : ByteArray := prog_14_method_13_code
def yX12_setsLengths : MethodName := ⟨RX12, "setsLengths", "(IIIIII)V"⟩
abbrev cX12_addProtocol : ByteArray := prog_14_method_14_code
def yX12_addProtocol : MethodName := ⟨RX12, "addProtocol", "(IIII)I"⟩
abbrev cX12_setLengths : ByteArray := prog_14_method_15_code
def yX12_setLengths : MethodName := ⟨RX12, "setLengths", "(IIIIII)I"⟩
abbrev cX12_protocol : ByteArray := prog_14_method_16_code
def yX12_protocol : MethodName := ⟨RX12, "protocol", "(II)I"⟩
abbrev cX12_count : ByteArray := prog_14_method_17_code
def yX12_count : MethodName := ⟨RX12, "count", "(I)I"⟩
abbrev cX12_identity : ByteArray := prog_14_method_18_code
def yX12_identity : MethodName := ⟨RX12, "identity", "(II)I"⟩
abbrev cX12_buttonOf : ByteArray := prog_14_method_19_code
def yX12_buttonOf : MethodName := ⟨RX12, "buttonOf", "(II)I"⟩
abbrev cX12_addsButton : ByteArray := prog_14_method_20_code
def yX12_addsButton : MethodName := ⟨RX12, "addsButton", "(II)V"⟩
abbrev cX12_addButton : ByteArray := prog_14_method_21_code
def yX12_addButton : MethodName := ⟨RX12, "addButton", "(II)I"⟩
abbrev cX12_button : ByteArray := prog_14_method_22_code
def yX12_button : MethodName := ⟨RX12, "button", "(II)I"⟩
abbrev cX12_sets : ByteArray := prog_14_method_23_code
def yX12_sets : MethodName := ⟨RX12, "sets", "(IIZ)I"⟩
abbrev cX12_setGap : ByteArray := prog_14_method_24_code
def yX12_setGap : MethodName := ⟨RX12, "setGap", "(I)I"⟩
abbrev cX12_setHold : ByteArray := prog_14_method_25_code
def yX12_setHold : MethodName := ⟨RX12, "setHold", "(I)I"⟩
abbrev cX12_setTolerance : ByteArray := prog_14_method_26_code
def yX12_setTolerance : MethodName := ⟨RX12, "setTolerance", "(I)I"⟩
abbrev cX12_appendCharacter : ByteArray := prog_14_method_27_code
def yX12_appendCharacter : MethodName := ⟨RX12, "appendCharacter", "(I)I"⟩
abbrev cX12_clearText : ByteArray := prog_14_method_28_code
def yX12_clearText : MethodName := ⟨RX12, "clearText", "()I"⟩
abbrev cX12_here : ByteArray := prog_14_method_29_code
def yX12_here : MethodName := ⟨RX12, "here", "()I"⟩
abbrev cX12_readsToken : ByteArray := prog_14_method_30_code
def yX12_readsToken : MethodName := ⟨RX12, "readsToken", "()V"⟩
abbrev cX12_takes : ByteArray := prog_14_method_31_code
def yX12_takes : MethodName := ⟨RX12, "takes", "(Z)V"⟩
abbrev cX12_takesNumber : ByteArray := prog_14_method_32_code
def yX12_takesNumber : MethodName := ⟨RX12, "takesNumber", "(II)I"⟩
abbrev cX12_readsProtocol : ByteArray := prog_14_method_33_code
def yX12_readsProtocol : MethodName := ⟨RX12, "readsProtocol", "()V"⟩
abbrev cX12_readsButton : ByteArray := prog_14_method_34_code
def yX12_readsButton : MethodName := ⟨RX12, "readsButton", "()V"⟩
abbrev cX12_load : ByteArray := prog_14_method_35_code
def yX12_load : MethodName := ⟨RX12, "load", "()I"⟩
abbrev cX12_exchanges : ByteArray := prog_14_method_36_code
def yX12_exchanges : MethodName := ⟨RX12, "exchanges", "()V"⟩
abbrev cX12_isMark : ByteArray := prog_14_method_37_code
def yX12_isMark : MethodName := ⟨RX12, "isMark", "()Z"⟩
abbrev cX12_lays : ByteArray := prog_14_method_38_code
def yX12_lays : MethodName := ⟨RX12, "lays", "(ZI)V"⟩
abbrev cX12_bit : ByteArray := prog_14_method_39_code
def yX12_bit : MethodName := ⟨RX12, "bit", "(III)Z"⟩
abbrev cX12_makes : ByteArray := prog_14_method_40_code
def yX12_makes : MethodName := ⟨RX12, "makes", "(II)V"⟩
abbrev cX12_makesShort : ByteArray := prog_14_method_41_code
def yX12_makesShort : MethodName := ⟨RX12, "makesShort", "(I)V"⟩
abbrev cX12_trainAt : ByteArray := prog_14_method_42_code
def yX12_trainAt : MethodName := ⟨RX12, "trainAt", "(I)I"⟩
abbrev cX12_looksAt : ByteArray := prog_14_method_43_code
def yX12_looksAt : MethodName := ⟨RX12, "looksAt", "(I)V"⟩
abbrev cX12_append : ByteArray := prog_14_method_44_code
def yX12_append : MethodName := ⟨RX12, "append", "(II)I"⟩
abbrev cX12_sends : ByteArray := prog_14_method_45_code
def yX12_sends : MethodName := ⟨RX12, "sends", "(II)I"⟩
abbrev cX12_send : ByteArray := prog_14_method_46_code
def yX12_send : MethodName := ⟨RX12, "send", "(IIII)I"⟩
abbrev cX12_sendShort : ByteArray := prog_14_method_47_code
def yX12_sendShort : MethodName := ⟨RX12, "sendShort", "(III)I"⟩
abbrev cX12_clear : ByteArray := prog_14_method_48_code
def yX12_clear : MethodName := ⟨RX12, "clear", "(I)I"⟩
abbrev cX12_overlays : ByteArray := prog_14_method_49_code
def yX12_overlays : MethodName := ⟨RX12, "overlays", "(I)V"⟩
abbrev cX12_overlay : ByteArray := prog_14_method_50_code
def yX12_overlay : MethodName := ⟨RX12, "overlay", "(III)I"⟩
abbrev cX12_floor : ByteArray := prog_14_method_51_code
def yX12_floor : MethodName := ⟨RX12, "floor", "(II)I"⟩
abbrev cX12_distort : ByteArray := prog_14_method_52_code
def yX12_distort : MethodName := ⟨RX12, "distort", "(III)I"⟩
abbrev cX12_duration : ByteArray := prog_14_method_53_code
def yX12_duration : MethodName := ⟨RX12, "duration", "(II)I"⟩
abbrev cX12_length : ByteArray := prog_14_method_54_code
def yX12_length : MethodName := ⟨RX12, "length", "(I)I"⟩
abbrev cX12_findsFrames : ByteArray := prog_14_method_55_code
def yX12_findsFrames : MethodName := ⟨RX12, "findsFrames", "()V"⟩
abbrev cX12_matches : ByteArray := prog_14_method_56_code
def yX12_matches : MethodName := ⟨RX12, "matches", "(II)Z"⟩
abbrev cX12_match : ByteArray := prog_14_method_57_code
def yX12_match : MethodName := ⟨RX12, "match", "(III)Z"⟩
abbrev cX12_ordered : ByteArray := prog_14_method_58_code
def yX12_ordered : MethodName := ⟨RX12, "ordered", "(II)I"⟩
abbrev cX12_readsBits : ByteArray := prog_14_method_59_code
def yX12_readsBits : MethodName := ⟨RX12, "readsBits", "(II)I"⟩
abbrev cX12_goesOn : ByteArray := prog_14_method_60_code
def yX12_goesOn : MethodName := ⟨RX12, "goesOn", "(IIIIII)I"⟩
abbrev cX12_isWhole : ByteArray := prog_14_method_61_code
def yX12_isWhole : MethodName := ⟨RX12, "isWhole", "(IIIII)Z"⟩
abbrev cX12_dead : ByteArray := prog_14_method_62_code
def yX12_dead : MethodName := ⟨RX12, "dead", "(III)I"⟩
abbrev cX12_readsPhase : ByteArray := prog_14_method_63_code
def yX12_readsPhase : MethodName := ⟨RX12, "readsPhase", "(III)I"⟩
abbrev cX12_codeOf : ByteArray := prog_14_method_64_code
def yX12_codeOf : MethodName := ⟨RX12, "codeOf", "(III)I"⟩
abbrev cX12_isShort : ByteArray := prog_14_method_65_code
def yX12_isShort : MethodName := ⟨RX12, "isShort", "(III)Z"⟩
abbrev cX12_decodes : ByteArray := prog_14_method_66_code
def yX12_decodes : MethodName := ⟨RX12, "decodes", "(I)Z"⟩
abbrev cX12_opens : ByteArray := prog_14_method_67_code
def yX12_opens : MethodName := ⟨RX12, "opens", "(I)V"⟩
abbrev cX12_frameCount : ByteArray := prog_14_method_68_code
def yX12_frameCount : MethodName := ⟨RX12, "frameCount", "(I)I"⟩
abbrev cX12_frame : ByteArray := prog_14_method_69_code
def yX12_frame : MethodName := ⟨RX12, "frame", "(III)I"⟩
abbrev cX12_deviation : ByteArray := prog_14_method_70_code
def yX12_deviation : MethodName := ⟨RX12, "deviation", "(II)I"⟩
abbrev cX12_findsPresses : ByteArray := prog_14_method_71_code
def yX12_findsPresses : MethodName := ⟨RX12, "findsPresses", "(I)V"⟩
abbrev cX12_pressCount : ByteArray := prog_14_method_72_code
def yX12_pressCount : MethodName := ⟨RX12, "pressCount", "(I)I"⟩
abbrev cX12_press : ByteArray := prog_14_method_73_code
def yX12_press : MethodName := ⟨RX12, "press", "(III)I"⟩
abbrev cX12_strayCount : ByteArray := prog_14_method_74_code
def yX12_strayCount : MethodName := ⟨RX12, "strayCount", "(I)I"⟩
abbrev cX12_neededTolerance : ByteArray := prog_14_method_75_code
def yX12_neededTolerance : MethodName := ⟨RX12, "neededTolerance", "(I)I"⟩
abbrev cX12_findsClusters : ByteArray := prog_14_method_76_code
def yX12_findsClusters : MethodName := ⟨RX12, "findsClusters", "(I)V"⟩
abbrev cX12_meanOf : ByteArray := prog_14_method_77_code
def yX12_meanOf : MethodName := ⟨RX12, "meanOf", "(I)I"⟩
abbrev cX12_clusters : ByteArray := prog_14_method_78_code
def yX12_clusters : MethodName := ⟨RX12, "clusters", "(II)I"⟩
abbrev cX12_learn : ByteArray := prog_14_method_79_code
def yX12_learn : MethodName := ⟨RX12, "learn", "(I)I"⟩
abbrev cX12_collides : ByteArray := prog_14_method_80_code
def yX12_collides : MethodName := ⟨RX12, "collides", "(III)V"⟩
abbrev cX12_isLike : ByteArray := prog_14_method_81_code
def yX12_isLike : MethodName := ⟨RX12, "isLike", "(I)Z"⟩
abbrev cX12_explain : ByteArray := prog_14_method_82_code
def yX12_explain : MethodName := ⟨RX12, "explain", "(III)I"⟩
abbrev cX12_ghosts : ByteArray := prog_14_method_83_code
def yX12_ghosts : MethodName := ⟨RX12, "ghosts", "(I)I"⟩
def RJ9 : String := "java/lang/Math"
def TJ9 : u_T := fun k => match k with
  | _ => ("", "", "", false)
def tyJ9 : Nat → FieldType := fun k => match k with
  | _ => .int
abbrev wsJ90 : List Cond := u_ws RJ9 TJ9 0
theorem nmJ9 : ∀ a, a < 0 → ∀ b, b < 0 → a ≠ b → (TJ9 a).2.1 ≠ (TJ9 b).2.1 := by decide +kernel
theorem tyJ9_ok : ∀ k, k < 0 → parseFieldDescriptor (TJ9 k).2.2.1 = some (tyJ9 k) := by decide +kernel
abbrev cJ9_abs_0f7a4 : ByteArray := prog_15_method_59_code
def yJ9_abs_0f7a4 : MethodName := ⟨RJ9, "abs", "(I)I"⟩
abbrev cJ9_max_7cf53 : ByteArray := prog_15_method_65_code
def yJ9_max_7cf53 : MethodName := ⟨RJ9, "max", "(II)I"⟩
abbrev cJ9_min_7cf53 : ByteArray := prog_15_method_69_code
def yJ9_min_7cf53 : MethodName := ⟨RJ9, "min", "(II)I"⟩
def RJ0 : String := "java/lang/String"
def TJ0 : u_T := fun k => match k with
  | _ => ("", "", "", false)
def tyJ0 : Nat → FieldType := fun k => match k with
  | _ => .int
abbrev wsJ00 : List Cond := u_ws RJ0 TJ0 0
theorem nmJ0 : ∀ a, a < 0 → ∀ b, b < 0 → a ≠ b → (TJ0 a).2.1 ≠ (TJ0 b).2.1 := by decide +kernel
theorem tyJ0_ok : ∀ k, k < 0 → parseFieldDescriptor (TJ0 k).2.2.1 = some (tyJ0 k) := by decide +kernel
abbrev cJ0_length_8abf5 : ByteArray := prog_16_method_54_code
def yJ0_length_8abf5 : MethodName := ⟨RJ0, "length", "()I"⟩
abbrev cJ0_charAt_5068e : ByteArray := prog_16_method_56_code
def yJ0_charAt_5068e : MethodName := ⟨RJ0, "charAt", "(I)C"⟩
abbrev cJ0_coder_7d493 : ByteArray := prog_16_method_152_code
def yJ0_coder_7d493 : MethodName := ⟨RJ0, "coder", "()B"⟩
abbrev cJ0_isLatin1_aae02 : ByteArray := prog_16_method_154_code
def yJ0_isLatin1_aae02 : MethodName := ⟨RJ0, "isLatin1", "()Z"⟩
abbrev cJ0_checkIndex_df160 : ByteArray := prog_16_method_155_code
def yJ0_checkIndex_df160 : MethodName := ⟨RJ0, "checkIndex", "(II)V"⟩
def RJ1 : String := "java/lang/StringLatin1"
def TJ1 : u_T := fun k => match k with
  | _ => ("", "", "", false)
def tyJ1 : Nat → FieldType := fun k => match k with
  | _ => .int
abbrev wsJ10 : List Cond := u_ws RJ1 TJ1 0
theorem nmJ1 : ∀ a, a < 0 → ∀ b, b < 0 → a ≠ b → (TJ1 a).2.1 ≠ (TJ1 b).2.1 := by decide +kernel
theorem tyJ1_ok : ∀ k, k < 0 → parseFieldDescriptor (TJ1 k).2.2.1 = some (tyJ1 k) := by decide +kernel
abbrev cJ1_charAt_3b067 : ByteArray := prog_17_method_2_code
def yJ1_charAt_3b067 : MethodName := ⟨RJ1, "charAt", "([BI)C"⟩
def RJ2 : String := "java/lang/StringUTF16"
def TJ2 : u_T := fun k => match k with
  | _ => ("", "", "", false)
def tyJ2 : Nat → FieldType := fun k => match k with
  | _ => .int
abbrev wsJ20 : List Cond := u_ws RJ2 TJ2 0
theorem nmJ2 : ∀ a, a < 0 → ∀ b, b < 0 → a ≠ b → (TJ2 a).2.1 ≠ (TJ2 b).2.1 := by decide +kernel
theorem tyJ2_ok : ∀ k, k < 0 → parseFieldDescriptor (TJ2 k).2.2.1 = some (tyJ2 k) := by decide +kernel
abbrev cJ2_getChar_3b067 : ByteArray := prog_18_method_5_code
def yJ2_getChar_3b067 : MethodName := ⟨RJ2, "getChar", "([BI)C"⟩
abbrev cJ2_length_9d52b : ByteArray := prog_18_method_6_code
def yJ2_length_9d52b : MethodName := ⟨RJ2, "length", "([B)I"⟩
abbrev cJ2_charAt_3b067 : ByteArray := prog_18_method_83_code
def yJ2_charAt_3b067 : MethodName := ⟨RJ2, "charAt", "([BI)C"⟩
abbrev cJ2_checkIndex_2214a : ByteArray := prog_18_method_91_code
def yJ2_checkIndex_2214a : MethodName := ⟨RJ2, "checkIndex", "(I[B)V"⟩
def RJ10 : String := "java/lang/System"
def TJ10 : u_T := fun k => match k with
  | _ => ("", "", "", false)
def tyJ10 : Nat → FieldType := fun k => match k with
  | _ => .int
abbrev wsJ100 : List Cond := u_ws RJ10 TJ10 0
theorem nmJ10 : ∀ a, a < 0 → ∀ b, b < 0 → a ≠ b → (TJ10 a).2.1 ≠ (TJ10 b).2.1 := by decide +kernel
theorem tyJ10_ok : ∀ k, k < 0 → parseFieldDescriptor (TJ10 k).2.2.1 = some (tyJ10 k) := by decide +kernel
def RJ3 : String := "jdk/internal/util/Preconditions"
def TJ3 : u_T := fun k => match k with
  | _ => ("", "", "", false)
def tyJ3 : Nat → FieldType := fun k => match k with
  | _ => .int
abbrev wsJ30 : List Cond := u_ws RJ3 TJ3 0
theorem nmJ3 : ∀ a, a < 0 → ∀ b, b < 0 → a ≠ b → (TJ3 a).2.1 ≠ (TJ3 b).2.1 := by decide +kernel
theorem tyJ3_ok : ∀ k, k < 0 → parseFieldDescriptor (TJ3 k).2.2.1 = some (tyJ3 k) := by decide +kernel
abbrev cJ3_checkIndex_8e157 : ByteArray := prog_20_method_11_code
def yJ3_checkIndex_8e157 : MethodName := ⟨RJ3, "checkIndex", "(IILjava/util/function/BiFunction;)I"⟩
def RL : String := "PulseRemoteLaw"
abbrev cL_law : ByteArray := code
def yL_law : MethodName := ⟨RL, "law", "([I)Z"⟩
abbrev vwCl : List vw_C := [(RX0, TX0, 5), (RX1, TX1, 10), (RX2, TX2, 6), (RX3, TX3, 4), (RX4, TX4, 10), (RX5, TX5, 8), (RX6, TX6, 9), (RX7, TX7, 5), (RX8, TX8, 5), (RX9, TX9, 5), (RX10, TX10, 2), (RX11, TX11, 12), (RX12, TX12, 36)]
