-- ===== PART A: goes FIRST, ahead of the names: the tables' words, and 'selects' of the private methods out of them =====
/-- a private method of a class that the tables say can be made, by its rows of tables_1 -/
def lw_okq (q : MethodName × Nat) : Prop := (q.1.cls ≠ "java/lang/invoke/MethodHandle" ∧ q.1.cls ≠ "java/lang/invoke/VarHandle") ∧ Cond.instantiable q.1.cls q.2 ∈ tables_1 ∧ Cond.privateMethod q.1 ∈ tables_1 ∧ Cond.instanceMethod q.1 ∈ tables_1
theorem lw_p0 : lw_okq (⟨"PulseRemote", "saveState", "()V"⟩, 12) := ⟨⟨by decide +kernel, by decide +kernel⟩, List.mem_of_getElem? (i := 16) (by decide +kernel), List.mem_of_getElem? (i := 423) (by decide +kernel), List.mem_of_getElem? (i := 424) (by decide +kernel)⟩
theorem lw_p1 : lw_okq (⟨"PulseRemote$FrameList", "note", "(II)V"⟩, 4) := ⟨⟨by decide +kernel, by decide +kernel⟩, List.mem_of_getElem? (i := 177) (by decide +kernel), List.mem_of_getElem? (i := 486) (by decide +kernel), List.mem_of_getElem? (i := 487) (by decide +kernel)⟩
theorem lw_p2 : lw_okq (⟨"PulseRemote$Decoder", "take", "(LPulseRemote$FrameList;I)Z"⟩, 6) := ⟨⟨by decide +kernel, by decide +kernel⟩, List.mem_of_getElem? (i := 201) (by decide +kernel), List.mem_of_getElem? (i := 506) (by decide +kernel), List.mem_of_getElem? (i := 507) (by decide +kernel)⟩
theorem lw_p3 : lw_okq (⟨"PulseRemote$Decoder", "phaseCode", "(LPulseRemote$Protocol;)I"⟩, 6) := ⟨⟨by decide +kernel, by decide +kernel⟩, List.mem_of_getElem? (i := 201) (by decide +kernel), List.mem_of_getElem? (i := 521) (by decide +kernel), List.mem_of_getElem? (i := 522) (by decide +kernel)⟩
theorem lw_p4 : lw_okq (⟨"PulseRemote$Decoder", "fits", "(II)Z"⟩, 6) := ⟨⟨by decide +kernel, by decide +kernel⟩, List.mem_of_getElem? (i := 201) (by decide +kernel), List.mem_of_getElem? (i := 525) (by decide +kernel), List.mem_of_getElem? (i := 526) (by decide +kernel)⟩
theorem lw_p5 : lw_okq (⟨"PulseRemote$Decoder", "placesOf", "(I)J"⟩, 6) := ⟨⟨by decide +kernel, by decide +kernel⟩, List.mem_of_getElem? (i := 201) (by decide +kernel), List.mem_of_getElem? (i := 532) (by decide +kernel), List.mem_of_getElem? (i := 533) (by decide +kernel)⟩
theorem lw_p6 : lw_okq (⟨"PulseRemote$Decoder", "restOfPhaseCode", "(LPulseRemote$Protocol;IJJ)I"⟩, 6) := ⟨⟨by decide +kernel, by decide +kernel⟩, List.mem_of_getElem? (i := 201) (by decide +kernel), List.mem_of_getElem? (i := 540) (by decide +kernel), List.mem_of_getElem? (i := 541) (by decide +kernel)⟩
theorem lw_p7 : lw_okq (⟨"PulseRemote$Decoder", "plainCode", "(LPulseRemote$Protocol;)I"⟩, 6) := ⟨⟨by decide +kernel, by decide +kernel⟩, List.mem_of_getElem? (i := 201) (by decide +kernel), List.mem_of_getElem? (i := 548) (by decide +kernel), List.mem_of_getElem? (i := 549) (by decide +kernel)⟩
theorem lw_p8 : lw_okq (⟨"PulseRemote$Decoder", "protocolOfShortFrame", "(LPulseRemote$Table;)I"⟩, 6) := ⟨⟨by decide +kernel, by decide +kernel⟩, List.mem_of_getElem? (i := 201) (by decide +kernel), List.mem_of_getElem? (i := 552) (by decide +kernel), List.mem_of_getElem? (i := 553) (by decide +kernel)⟩
theorem lw_p9 : lw_okq (⟨"PulseRemote$Protocol", "writeBit", "(ZILPulseRemote$Train;)V"⟩, 9) := ⟨⟨by decide +kernel, by decide +kernel⟩, List.mem_of_getElem? (i := 37) (by decide +kernel), List.mem_of_getElem? (i := 578) (by decide +kernel), List.mem_of_getElem? (i := 579) (by decide +kernel)⟩
theorem lw_p10 : lw_okq (⟨"PulseRemote", "worstDeviation", "(ILPulseRemote$Train;)I"⟩, 12) := ⟨⟨by decide +kernel, by decide +kernel⟩, List.mem_of_getElem? (i := 16) (by decide +kernel), List.mem_of_getElem? (i := 593) (by decide +kernel), List.mem_of_getElem? (i := 594) (by decide +kernel)⟩
theorem lw_p11 : lw_okq (⟨"PulseRemote$PressList", "continuesLatest", "(LPulseRemote$Decoder;LPulseRemote$Table;)Z"⟩, 8) := ⟨⟨by decide +kernel, by decide +kernel⟩, List.mem_of_getElem? (i := 231) (by decide +kernel), List.mem_of_getElem? (i := 618) (by decide +kernel), List.mem_of_getElem? (i := 619) (by decide +kernel)⟩
theorem lw_p12 : lw_okq (⟨"PulseRemote$PressList", "countLatest", "()V"⟩, 8) := ⟨⟨by decide +kernel, by decide +kernel⟩, List.mem_of_getElem? (i := 231) (by decide +kernel), List.mem_of_getElem? (i := 625) (by decide +kernel), List.mem_of_getElem? (i := 626) (by decide +kernel)⟩
theorem lw_p13 : lw_okq (⟨"PulseRemote$PressList", "begin", "(LPulseRemote$Decoder;)V"⟩, 8) := ⟨⟨by decide +kernel, by decide +kernel⟩, List.mem_of_getElem? (i := 231) (by decide +kernel), List.mem_of_getElem? (i := 629) (by decide +kernel), List.mem_of_getElem? (i := 630) (by decide +kernel)⟩
theorem lw_p14 : lw_okq (⟨"PulseRemote", "toleranceFor", "(II)I"⟩, 12) := ⟨⟨by decide +kernel, by decide +kernel⟩, List.mem_of_getElem? (i := 16) (by decide +kernel), List.mem_of_getElem? (i := 670) (by decide +kernel), List.mem_of_getElem? (i := 671) (by decide +kernel)⟩
theorem lw_p15 : lw_okq (⟨"PulseRemote$Learner", "insertAll", "(LPulseRemote$FrameList;I)V"⟩, 10) := ⟨⟨by decide +kernel, by decide +kernel⟩, List.mem_of_getElem? (i := 267) (by decide +kernel), List.mem_of_getElem? (i := 782) (by decide +kernel), List.mem_of_getElem? (i := 783) (by decide +kernel)⟩
def lw_privs_1 : List (MethodName × Nat) := [(⟨"PulseRemote", "saveState", "()V"⟩, 12), (⟨"PulseRemote$FrameList", "note", "(II)V"⟩, 4), (⟨"PulseRemote$Decoder", "take", "(LPulseRemote$FrameList;I)Z"⟩, 6), (⟨"PulseRemote$Decoder", "phaseCode", "(LPulseRemote$Protocol;)I"⟩, 6), (⟨"PulseRemote$Decoder", "fits", "(II)Z"⟩, 6), (⟨"PulseRemote$Decoder", "placesOf", "(I)J"⟩, 6), (⟨"PulseRemote$Decoder", "restOfPhaseCode", "(LPulseRemote$Protocol;IJJ)I"⟩, 6), (⟨"PulseRemote$Decoder", "plainCode", "(LPulseRemote$Protocol;)I"⟩, 6), (⟨"PulseRemote$Decoder", "protocolOfShortFrame", "(LPulseRemote$Table;)I"⟩, 6), (⟨"PulseRemote$Protocol", "writeBit", "(ZILPulseRemote$Train;)V"⟩, 9), (⟨"PulseRemote", "worstDeviation", "(ILPulseRemote$Train;)I"⟩, 12), (⟨"PulseRemote$PressList", "continuesLatest", "(LPulseRemote$Decoder;LPulseRemote$Table;)Z"⟩, 8), (⟨"PulseRemote$PressList", "countLatest", "()V"⟩, 8), (⟨"PulseRemote$PressList", "begin", "(LPulseRemote$Decoder;)V"⟩, 8), (⟨"PulseRemote", "toleranceFor", "(II)I"⟩, 12), (⟨"PulseRemote$Learner", "insertAll", "(LPulseRemote$FrameList;I)V"⟩, 10)]
theorem lw_r1 : ∀ q ∈ lw_privs_1, lw_okq q := List.forall_mem_cons.mpr ⟨lw_p0, List.forall_mem_cons.mpr ⟨lw_p1, List.forall_mem_cons.mpr ⟨lw_p2, List.forall_mem_cons.mpr ⟨lw_p3, List.forall_mem_cons.mpr ⟨lw_p4, List.forall_mem_cons.mpr ⟨lw_p5, List.forall_mem_cons.mpr ⟨lw_p6, List.forall_mem_cons.mpr ⟨lw_p7, List.forall_mem_cons.mpr ⟨lw_p8, List.forall_mem_cons.mpr ⟨lw_p9, List.forall_mem_cons.mpr ⟨lw_p10, List.forall_mem_cons.mpr ⟨lw_p11, List.forall_mem_cons.mpr ⟨lw_p12, List.forall_mem_cons.mpr ⟨lw_p13, List.forall_mem_cons.mpr ⟨lw_p14, List.forall_mem_cons.mpr ⟨lw_p15, fun _ h => absurd h List.not_mem_nil⟩⟩⟩⟩⟩⟩⟩⟩⟩⟩⟩⟩⟩⟩⟩⟩
theorem lw_p16 : lw_okq (⟨"PulseRemote$Clusters", "mean", "(II)I"⟩, 5) := ⟨⟨by decide +kernel, by decide +kernel⟩, List.mem_of_getElem? (i := 273) (by decide +kernel), List.mem_of_getElem? (i := 794) (by decide +kernel), List.mem_of_getElem? (i := 795) (by decide +kernel)⟩
theorem lw_p17 : lw_okq (⟨"PulseRemote$Clusters", "noteCluster", "(I)V"⟩, 5) := ⟨⟨by decide +kernel, by decide +kernel⟩, List.mem_of_getElem? (i := 273) (by decide +kernel), List.mem_of_getElem? (i := 799) (by decide +kernel), List.mem_of_getElem? (i := 800) (by decide +kernel)⟩
theorem lw_p18 : lw_okq (⟨"PulseRemote$Learner", "makeProtocol", "(IILPulseRemote$Clusters;LPulseRemote$Clusters;)Z"⟩, 10) := ⟨⟨by decide +kernel, by decide +kernel⟩, List.mem_of_getElem? (i := 267) (by decide +kernel), List.mem_of_getElem? (i := 807) (by decide +kernel), List.mem_of_getElem? (i := 808) (by decide +kernel)⟩
theorem lw_p19 : lw_okq (⟨"PulseRemote$Collision", "takeMark", "()V"⟩, 10) := ⟨⟨by decide +kernel, by decide +kernel⟩, List.mem_of_getElem? (i := 336) (by decide +kernel), List.mem_of_getElem? (i := 840) (by decide +kernel), List.mem_of_getElem? (i := 841) (by decide +kernel)⟩
theorem lw_p20 : lw_okq (⟨"PulseRemote", "appendScratch", "(LPulseRemote$Train;I)I"⟩, 12) := ⟨⟨by decide +kernel, by decide +kernel⟩, List.mem_of_getElem? (i := 16) (by decide +kernel), List.mem_of_getElem? (i := 875) (by decide +kernel), List.mem_of_getElem? (i := 876) (by decide +kernel)⟩
def lw_privs_2 : List (MethodName × Nat) := [(⟨"PulseRemote$Clusters", "mean", "(II)I"⟩, 5), (⟨"PulseRemote$Clusters", "noteCluster", "(I)V"⟩, 5), (⟨"PulseRemote$Learner", "makeProtocol", "(IILPulseRemote$Clusters;LPulseRemote$Clusters;)Z"⟩, 10), (⟨"PulseRemote$Collision", "takeMark", "()V"⟩, 10), (⟨"PulseRemote", "appendScratch", "(LPulseRemote$Train;I)I"⟩, 12)]
theorem lw_r2 : ∀ q ∈ lw_privs_2, lw_okq q := List.forall_mem_cons.mpr ⟨lw_p16, List.forall_mem_cons.mpr ⟨lw_p17, List.forall_mem_cons.mpr ⟨lw_p18, List.forall_mem_cons.mpr ⟨lw_p19, List.forall_mem_cons.mpr ⟨lw_p20, fun _ h => absurd h List.not_mem_nil⟩⟩⟩⟩⟩
def lw_privs : List (MethodName × Nat) := lw_privs_1 ++ (lw_privs_2)
def lw_tbl : List Cond := k2_sels lw_privs ++ tables_1
theorem lw_privs_ok : ∀ q ∈ lw_privs, lw_okq q := by
  show ∀ q ∈ lw_privs_1 ++ (lw_privs_2), lw_okq q
  exact List.forall_mem_append.mpr ⟨lw_r1, lw_r2⟩
-- ===== end of PART A; then your names; then what follows =====
def RX0 : String := "PulseRemote$Clusters"
def TX0 : u_T := fun k => match k with
  | 0 => ("PulseRemote$Clusters", "sorted", "[I", true)
  | 1 => ("PulseRemote$Clusters", "size", "I", false)
  | 2 => ("PulseRemote$Clusters", "clusterCount", "I", false)
  | 3 => ("PulseRemote$Clusters", "firstMean", "I", false)
  | _ => ("PulseRemote$Clusters", "secondMean", "I", false)
def tyX0 : Nat → FieldType := fun k => match k with
  | 0 => .array .int
  | 1 => .int
  | 2 => .int
  | 3 => .int
  | _ => .int
abbrev wsX00 : List Cond := u_ws RX0 TX0 5
theorem nmX0 : ∀ a, a < 5 → ∀ b, b < 5 → a ≠ b → (TX0 a).2.1 ≠ (TX0 b).2.1 := by decide +kernel
theorem tyX0_ok : ∀ k, k < 5 → parseFieldDescriptor (TX0 k).2.2.1 = some (tyX0 k) := by decide +kernel
abbrev cX0_init : ByteArray := prog_2_method_1_code
def yX0_init : MethodName := ⟨RX0, "<init>", "()V"⟩
abbrev cX0_makeEmpty : ByteArray := prog_2_method_2_code
def yX0_makeEmpty : MethodName := ⟨RX0, "makeEmpty", "()V"⟩
abbrev cX0_insert : ByteArray := prog_2_method_3_code
def yX0_insert : MethodName := ⟨RX0, "insert", "(I)V"⟩
abbrev cX0_cut : ByteArray := prog_2_method_4_code
def yX0_cut : MethodName := ⟨RX0, "cut", "()V"⟩
abbrev cX0_noteCluster : ByteArray := prog_2_method_5_code
def yX0_noteCluster : MethodName := ⟨RX0, "noteCluster", "(I)V"⟩
abbrev cX0_mean : ByteArray := prog_2_method_6_code
def yX0_mean : MethodName := ⟨RX0, "mean", "(II)I"⟩
def RX1 : String := "PulseRemote$Collision"
def TX1 : u_T := fun k => match k with
  | 0 => ("PulseRemote$Collision", "first", "LPulseRemote$Train;", true)
  | 1 => ("PulseRemote$Collision", "second", "LPulseRemote$Train;", true)
  | 2 => ("PulseRemote$Collision", "firstIndex", "I", false)
  | 3 => ("PulseRemote$Collision", "firstMoment", "I", false)
  | 4 => ("PulseRemote$Collision", "secondIndex", "I", false)
  | 5 => ("PulseRemote$Collision", "secondMoment", "I", false)
  | 6 => ("PulseRemote$Collision", "hasMark", "Z", false)
  | 7 => ("PulseRemote$Collision", "start", "I", false)
  | 8 => ("PulseRemote$Collision", "end", "I", false)
  | _ => ("PulseRemote$Collision", "space", "I", false)
def tyX1 : Nat → FieldType := fun k => match k with
  | 0 => .object "PulseRemote$Train"
  | 1 => .object "PulseRemote$Train"
  | 2 => .int
  | 3 => .int
  | 4 => .int
  | 5 => .int
  | 6 => .boolean
  | 7 => .int
  | 8 => .int
  | _ => .int
abbrev wsX10 : List Cond := u_ws RX1 TX1 10
theorem nmX1 : ∀ a, a < 10 → ∀ b, b < 10 → a ≠ b → (TX1 a).2.1 ≠ (TX1 b).2.1 := by decide +kernel
theorem tyX1_ok : ∀ k, k < 10 → parseFieldDescriptor (TX1 k).2.2.1 = some (tyX1 k) := by decide +kernel
abbrev cX1_init : ByteArray := prog_3_method_1_code
def yX1_init : MethodName := ⟨RX1, "<init>", "()V"⟩
abbrev cX1_lay : ByteArray := prog_3_method_2_code
def yX1_lay : MethodName := ⟨RX1, "lay", "(LPulseRemote$Train;LPulseRemote$Train;)V"⟩
abbrev cX1_begin : ByteArray := prog_3_method_3_code
def yX1_begin : MethodName := ⟨RX1, "begin", "(I)V"⟩
abbrev cX1_takeMark : ByteArray := prog_3_method_4_code
def yX1_takeMark : MethodName := ⟨RX1, "takeMark", "()V"⟩
abbrev cX1_nextDuration : ByteArray := prog_3_method_5_code
def yX1_nextDuration : MethodName := ⟨RX1, "nextDuration", "()I"⟩
abbrev cX1_writeTo : ByteArray := prog_3_method_6_code
def yX1_writeTo : MethodName := ⟨RX1, "writeTo", "(LPulseRemote$Train;)Z"⟩
def RX2 : String := "PulseRemote$Decoder"
def TX2 : u_T := fun k => match k with
  | 0 => ("PulseRemote$Decoder", "protocol", "I", false)
  | 1 => ("PulseRemote$Decoder", "code", "I", false)
  | 2 => ("PulseRemote$Decoder", "durations", "[I", true)
  | 3 => ("PulseRemote$Decoder", "size", "I", false)
  | 4 => ("PulseRemote$Decoder", "tolerance", "I", false)
  | _ => ("PulseRemote$Decoder", "open", "[J", true)
def tyX2 : Nat → FieldType := fun k => match k with
  | 0 => .int
  | 1 => .int
  | 2 => .array .int
  | 3 => .int
  | 4 => .int
  | _ => .array .long
abbrev wsX20 : List Cond := u_ws RX2 TX2 6
theorem nmX2 : ∀ a, a < 6 → ∀ b, b < 6 → a ≠ b → (TX2 a).2.1 ≠ (TX2 b).2.1 := by decide +kernel
theorem tyX2_ok : ∀ k, k < 6 → parseFieldDescriptor (TX2 k).2.2.1 = some (tyX2 k) := by decide +kernel
abbrev cX2_init : ByteArray := prog_4_method_1_code
def yX2_init : MethodName := ⟨RX2, "<init>", "()V"⟩
abbrev cX2_isDecoded : ByteArray := prog_4_method_2_code
def yX2_isDecoded : MethodName := ⟨RX2, "isDecoded", "()Z"⟩
abbrev cX2_isCode : ByteArray := prog_4_method_3_code
def yX2_isCode : MethodName := ⟨RX2, "isCode", "()Z"⟩
abbrev cX2_decode : ByteArray := prog_4_method_4_code
def yX2_decode : MethodName := ⟨RX2, "decode", "(LPulseRemote$Table;LPulseRemote$FrameList;II)V"⟩
abbrev cX2_take : ByteArray := prog_4_method_5_code
def yX2_take : MethodName := ⟨RX2, "take", "(LPulseRemote$FrameList;I)Z"⟩
abbrev cX2_protocolOfShortFrame : ByteArray := prog_4_method_6_code
def yX2_protocolOfShortFrame : MethodName := ⟨RX2, "protocolOfShortFrame", "(LPulseRemote$Table;)I"⟩
abbrev cX2_fits : ByteArray := prog_4_method_7_code
def yX2_fits : MethodName := ⟨RX2, "fits", "(II)Z"⟩
abbrev cX2_plainCode : ByteArray := prog_4_method_8_code
def yX2_plainCode : MethodName := ⟨RX2, "plainCode", "(LPulseRemote$Protocol;)I"⟩
abbrev cX2_phaseCode : ByteArray := prog_4_method_9_code
def yX2_phaseCode : MethodName := ⟨RX2, "phaseCode", "(LPulseRemote$Protocol;)I"⟩
abbrev cX2_restOfPhaseCode : ByteArray := prog_4_method_10_code
def yX2_restOfPhaseCode : MethodName := ⟨RX2, "restOfPhaseCode", "(LPulseRemote$Protocol;IJJ)I"⟩
abbrev cX2_placesOf : ByteArray := prog_4_method_11_code
def yX2_placesOf : MethodName := ⟨RX2, "placesOf", "(I)J"⟩
abbrev cX2_isIn : ByteArray := prog_4_method_12_code
def yX2_isIn : MethodName := ⟨RX2, "isIn", "(JI)Z"⟩
def RX3 : String := "PulseRemote$FrameList"
def TX3 : u_T := fun k => match k with
  | 0 => ("PulseRemote$FrameList", "starts", "[I", true)
  | 1 => ("PulseRemote$FrameList", "sizes", "[I", true)
  | 2 => ("PulseRemote$FrameList", "total", "I", false)
  | _ => ("PulseRemote$FrameList", "train", "LPulseRemote$Train;", true)
def tyX3 : Nat → FieldType := fun k => match k with
  | 0 => .array .int
  | 1 => .array .int
  | 2 => .int
  | _ => .object "PulseRemote$Train"
abbrev wsX30 : List Cond := u_ws RX3 TX3 4
theorem nmX3 : ∀ a, a < 4 → ∀ b, b < 4 → a ≠ b → (TX3 a).2.1 ≠ (TX3 b).2.1 := by decide +kernel
theorem tyX3_ok : ∀ k, k < 4 → parseFieldDescriptor (TX3 k).2.2.1 = some (tyX3 k) := by decide +kernel
abbrev cX3_init : ByteArray := prog_5_method_1_code
def yX3_init : MethodName := ⟨RX3, "<init>", "()V"⟩
abbrev cX3_split : ByteArray := prog_5_method_2_code
def yX3_split : MethodName := ⟨RX3, "split", "(LPulseRemote$Train;I)V"⟩
abbrev cX3_note : ByteArray := prog_5_method_3_code
def yX3_note : MethodName := ⟨RX3, "note", "(II)V"⟩
abbrev cX3_startOf : ByteArray := prog_5_method_4_code
def yX3_startOf : MethodName := ⟨RX3, "startOf", "(I)I"⟩
abbrev cX3_sizeOf : ByteArray := prog_5_method_5_code
def yX3_sizeOf : MethodName := ⟨RX3, "sizeOf", "(I)I"⟩
abbrev cX3_durationAt : ByteArray := prog_5_method_6_code
def yX3_durationAt : MethodName := ⟨RX3, "durationAt", "(II)I"⟩
abbrev cX3_spaceBefore : ByteArray := prog_5_method_7_code
def yX3_spaceBefore : MethodName := ⟨RX3, "spaceBefore", "(I)I"⟩
def RX4 : String := "PulseRemote$Learner"
def TX4 : u_T := fun k => match k with
  | 0 => ("PulseRemote$Learner", "marks", "LPulseRemote$Clusters;", true)
  | 1 => ("PulseRemote$Learner", "spaces", "LPulseRemote$Clusters;", true)
  | 2 => ("PulseRemote$Learner", "size", "I", false)
  | 3 => ("PulseRemote$Learner", "headerMark", "I", false)
  | 4 => ("PulseRemote$Learner", "headerSpace", "I", false)
  | 5 => ("PulseRemote$Learner", "kind", "I", false)
  | 6 => ("PulseRemote$Learner", "bits", "I", false)
  | 7 => ("PulseRemote$Learner", "a", "I", false)
  | 8 => ("PulseRemote$Learner", "b", "I", false)
  | _ => ("PulseRemote$Learner", "c", "I", false)
def tyX4 : Nat → FieldType := fun k => match k with
  | 0 => .object "PulseRemote$Clusters"
  | 1 => .object "PulseRemote$Clusters"
  | 2 => .int
  | 3 => .int
  | 4 => .int
  | 5 => .int
  | 6 => .int
  | 7 => .int
  | 8 => .int
  | _ => .int
abbrev wsX40 : List Cond := u_ws RX4 TX4 10
theorem nmX4 : ∀ a, a < 10 → ∀ b, b < 10 → a ≠ b → (TX4 a).2.1 ≠ (TX4 b).2.1 := by decide +kernel
theorem tyX4_ok : ∀ k, k < 10 → parseFieldDescriptor (TX4 k).2.2.1 = some (tyX4 k) := by decide +kernel
abbrev cX4_init : ByteArray := prog_6_method_1_code
def yX4_init : MethodName := ⟨RX4, "<init>", "()V"⟩
abbrev cX4_gather : ByteArray := prog_6_method_2_code
def yX4_gather : MethodName := ⟨RX4, "gather", "(LPulseRemote$FrameList;)Z"⟩
abbrev cX4_insertAll : ByteArray := prog_6_method_3_code
def yX4_insertAll : MethodName := ⟨RX4, "insertAll", "(LPulseRemote$FrameList;I)V"⟩
abbrev cX4_conclude : ByteArray := prog_6_method_4_code
def yX4_conclude : MethodName := ⟨RX4, "conclude", "()Z"⟩
abbrev cX4_makeProtocol : ByteArray := prog_6_method_5_code
def yX4_makeProtocol : MethodName := ⟨RX4, "makeProtocol", "(IILPulseRemote$Clusters;LPulseRemote$Clusters;)Z"⟩
def RX5 : String := "PulseRemote$PressList"
def TX5 : u_T := fun k => match k with
  | 0 => ("PulseRemote$PressList", "protocols", "[I", true)
  | 1 => ("PulseRemote$PressList", "codes", "[I", true)
  | 2 => ("PulseRemote$PressList", "counts", "[I", true)
  | 3 => ("PulseRemote$PressList", "listed", "I", false)
  | 4 => ("PulseRemote$PressList", "strays", "I", false)
  | 5 => ("PulseRemote$PressList", "latestIsListed", "Z", false)
  | 6 => ("PulseRemote$PressList", "latestProtocol", "I", false)
  | _ => ("PulseRemote$PressList", "latestCode", "I", false)
def tyX5 : Nat → FieldType := fun k => match k with
  | 0 => .array .int
  | 1 => .array .int
  | 2 => .array .int
  | 3 => .int
  | 4 => .int
  | 5 => .boolean
  | 6 => .int
  | _ => .int
abbrev wsX50 : List Cond := u_ws RX5 TX5 8
theorem nmX5 : ∀ a, a < 8 → ∀ b, b < 8 → a ≠ b → (TX5 a).2.1 ≠ (TX5 b).2.1 := by decide +kernel
theorem tyX5_ok : ∀ k, k < 8 → parseFieldDescriptor (TX5 k).2.2.1 = some (tyX5 k) := by decide +kernel
abbrev cX5_init : ByteArray := prog_7_method_1_code
def yX5_init : MethodName := ⟨RX5, "<init>", "()V"⟩
abbrev cX5_find : ByteArray := prog_7_method_2_code
def yX5_find : MethodName := ⟨RX5, "find", "(LPulseRemote$State;ILPulseRemote$FrameList;LPulseRemote$Decoder;)V"⟩
abbrev cX5_continuesLatest : ByteArray := prog_7_method_3_code
def yX5_continuesLatest : MethodName := ⟨RX5, "continuesLatest", "(LPulseRemote$Decoder;LPulseRemote$Table;)Z"⟩
abbrev cX5_countLatest : ByteArray := prog_7_method_4_code
def yX5_countLatest : MethodName := ⟨RX5, "countLatest", "()V"⟩
abbrev cX5_begin : ByteArray := prog_7_method_5_code
def yX5_begin : MethodName := ⟨RX5, "begin", "(LPulseRemote$Decoder;)V"⟩
def RX6 : String := "PulseRemote$Protocol"
def TX6 : u_T := fun k => match k with
  | 0 => ("PulseRemote$Protocol", "kind", "I", false)
  | 1 => ("PulseRemote$Protocol", "headerMark", "I", false)
  | 2 => ("PulseRemote$Protocol", "headerSpace", "I", false)
  | 3 => ("PulseRemote$Protocol", "a", "I", false)
  | 4 => ("PulseRemote$Protocol", "b", "I", false)
  | 5 => ("PulseRemote$Protocol", "c", "I", false)
  | 6 => ("PulseRemote$Protocol", "bits", "I", false)
  | 7 => ("PulseRemote$Protocol", "order", "I", false)
  | _ => ("PulseRemote$Protocol", "repetition", "I", false)
def tyX6 : Nat → FieldType := fun k => match k with
  | 0 => .int
  | 1 => .int
  | 2 => .int
  | 3 => .int
  | 4 => .int
  | 5 => .int
  | 6 => .int
  | 7 => .int
  | _ => .int
abbrev wsX60 : List Cond := u_ws RX6 TX6 9
theorem nmX6 : ∀ a, a < 9 → ∀ b, b < 9 → a ≠ b → (TX6 a).2.1 ≠ (TX6 b).2.1 := by decide +kernel
theorem tyX6_ok : ∀ k, k < 9 → parseFieldDescriptor (TX6 k).2.2.1 = some (tyX6 k) := by decide +kernel
abbrev cX6_init : ByteArray := prog_8_method_1_code
def yX6_init : MethodName := ⟨RX6, "<init>", "()V"⟩
abbrev cX6_useShape : ByteArray := prog_8_method_2_code
def yX6_useShape : MethodName := ⟨RX6, "useShape", "(IIII)V"⟩
abbrev cX6_useLengths : ByteArray := prog_8_method_3_code
def yX6_useLengths : MethodName := ⟨RX6, "useLengths", "(IIIII)V"⟩
abbrev cX6_copyFrom : ByteArray := prog_8_method_4_code
def yX6_copyFrom : MethodName := ⟨RX6, "copyFrom", "(LPulseRemote$Protocol;)V"⟩
abbrev cX6_hasCode : ByteArray := prog_8_method_5_code
def yX6_hasCode : MethodName := ⟨RX6, "hasCode", "(I)Z"⟩
abbrev cX6_maskAt : ByteArray := prog_8_method_6_code
def yX6_maskAt : MethodName := ⟨RX6, "maskAt", "(I)I"⟩
abbrev cX6_identityOf : ByteArray := prog_8_method_7_code
def yX6_identityOf : MethodName := ⟨RX6, "identityOf", "(I)I"⟩
abbrev cX6_writeFrame : ByteArray := prog_8_method_8_code
def yX6_writeFrame : MethodName := ⟨RX6, "writeFrame", "(ILPulseRemote$Train;)V"⟩
abbrev cX6_writeBit : ByteArray := prog_8_method_9_code
def yX6_writeBit : MethodName := ⟨RX6, "writeBit", "(ZILPulseRemote$Train;)V"⟩
abbrev cX6_writeShortFrame : ByteArray := prog_8_method_10_code
def yX6_writeShortFrame : MethodName := ⟨RX6, "writeShortFrame", "(LPulseRemote$Train;)V"⟩
def RX7 : String := "PulseRemote$State"
def TX7 : u_T := fun k => match k with
  | 0 => ("PulseRemote$State", "table", "LPulseRemote$Table;", true)
  | 1 => ("PulseRemote$State", "trains", "[LPulseRemote$Train;", true)
  | 2 => ("PulseRemote$State", "gap", "I", false)
  | 3 => ("PulseRemote$State", "hold", "I", false)
  | _ => ("PulseRemote$State", "tolerance", "I", false)
def tyX7 : Nat → FieldType := fun k => match k with
  | 0 => .object "PulseRemote$Table"
  | 1 => .array (.object "PulseRemote$Train")
  | 2 => .int
  | 3 => .int
  | _ => .int
abbrev wsX70 : List Cond := u_ws RX7 TX7 5
theorem nmX7 : ∀ a, a < 5 → ∀ b, b < 5 → a ≠ b → (TX7 a).2.1 ≠ (TX7 b).2.1 := by decide +kernel
theorem tyX7_ok : ∀ k, k < 5 → parseFieldDescriptor (TX7 k).2.2.1 = some (tyX7 k) := by decide +kernel
abbrev cX7_init : ByteArray := prog_9_method_1_code
def yX7_init : MethodName := ⟨RX7, "<init>", "()V"⟩
abbrev cX7_trainAt : ByteArray := prog_9_method_2_code
def yX7_trainAt : MethodName := ⟨RX7, "trainAt", "(I)LPulseRemote$Train;"⟩
abbrev cX7_copyFrom : ByteArray := prog_9_method_3_code
def yX7_copyFrom : MethodName := ⟨RX7, "copyFrom", "(LPulseRemote$State;)V"⟩
def RX8 : String := "PulseRemote$Table"
def TX8 : u_T := fun k => match k with
  | 0 => ("PulseRemote$Table", "protocols", "[LPulseRemote$Protocol;", true)
  | 1 => ("PulseRemote$Table", "protocolCount", "I", false)
  | 2 => ("PulseRemote$Table", "buttonProtocols", "[I", true)
  | 3 => ("PulseRemote$Table", "buttonIdentities", "[I", true)
  | _ => ("PulseRemote$Table", "buttonCount", "I", false)
def tyX8 : Nat → FieldType := fun k => match k with
  | 0 => .array (.object "PulseRemote$Protocol")
  | 1 => .int
  | 2 => .array .int
  | 3 => .array .int
  | _ => .int
abbrev wsX80 : List Cond := u_ws RX8 TX8 5
theorem nmX8 : ∀ a, a < 5 → ∀ b, b < 5 → a ≠ b → (TX8 a).2.1 ≠ (TX8 b).2.1 := by decide +kernel
theorem tyX8_ok : ∀ k, k < 5 → parseFieldDescriptor (TX8 k).2.2.1 = some (tyX8 k) := by decide +kernel
abbrev cX8_init : ByteArray := prog_10_method_1_code
def yX8_init : MethodName := ⟨RX8, "<init>", "()V"⟩
abbrev cX8_copyFrom : ByteArray := prog_10_method_2_code
def yX8_copyFrom : MethodName := ⟨RX8, "copyFrom", "(LPulseRemote$Table;)V"⟩
abbrev cX8_hasProtocol : ByteArray := prog_10_method_4_code
def yX8_hasProtocol : MethodName := ⟨RX8, "hasProtocol", "(I)Z"⟩
abbrev cX8_protocolAt : ByteArray := prog_10_method_5_code
def yX8_protocolAt : MethodName := ⟨RX8, "protocolAt", "(I)LPulseRemote$Protocol;"⟩
abbrev cX8_protocolsFull : ByteArray := prog_10_method_6_code
def yX8_protocolsFull : MethodName := ⟨RX8, "protocolsFull", "()Z"⟩
abbrev cX8_newProtocol : ByteArray := prog_10_method_7_code
def yX8_newProtocol : MethodName := ⟨RX8, "newProtocol", "(IIII)I"⟩
abbrev cX8_hasButton : ByteArray := prog_10_method_8_code
def yX8_hasButton : MethodName := ⟨RX8, "hasButton", "(I)Z"⟩
abbrev cX8_buttonsFull : ByteArray := prog_10_method_9_code
def yX8_buttonsFull : MethodName := ⟨RX8, "buttonsFull", "()Z"⟩
abbrev cX8_newButton : ByteArray := prog_10_method_10_code
def yX8_newButton : MethodName := ⟨RX8, "newButton", "(II)I"⟩
abbrev cX8_protocolOfButton : ByteArray := prog_10_method_11_code
def yX8_protocolOfButton : MethodName := ⟨RX8, "protocolOfButton", "(I)I"⟩
abbrev cX8_identityOfButton : ByteArray := prog_10_method_12_code
def yX8_identityOfButton : MethodName := ⟨RX8, "identityOfButton", "(I)I"⟩
abbrev cX8_findButton : ByteArray := prog_10_method_13_code
def yX8_findButton : MethodName := ⟨RX8, "findButton", "(II)I"⟩
abbrev cX8_findButtonOf : ByteArray := prog_10_method_14_code
def yX8_findButtonOf : MethodName := ⟨RX8, "findButtonOf", "(II)I"⟩
def RX9 : String := "PulseRemote$Text"
def TX9 : u_T := fun k => match k with
  | 0 => ("PulseRemote$Text", "characters", "[C", true)
  | 1 => ("PulseRemote$Text", "size", "I", false)
  | 2 => ("PulseRemote$Text", "tokenKind", "I", false)
  | 3 => ("PulseRemote$Text", "tokenStart", "I", false)
  | _ => ("PulseRemote$Text", "tokenEnd", "I", false)
def tyX9 : Nat → FieldType := fun k => match k with
  | 0 => .array .char
  | 1 => .int
  | 2 => .int
  | 3 => .int
  | _ => .int
abbrev wsX90 : List Cond := u_ws RX9 TX9 5
theorem nmX9 : ∀ a, a < 5 → ∀ b, b < 5 → a ≠ b → (TX9 a).2.1 ≠ (TX9 b).2.1 := by decide +kernel
theorem tyX9_ok : ∀ k, k < 5 → parseFieldDescriptor (TX9 k).2.2.1 = some (tyX9 k) := by decide +kernel
abbrev cX9_init : ByteArray := prog_11_method_1_code
def yX9_init : MethodName := ⟨RX9, "<init>", "()V"⟩
def RX10 : String := "PulseRemote$Train"
def TX10 : u_T := fun k => match k with
  | 0 => ("PulseRemote$Train", "durations", "[I", true)
  | _ => ("PulseRemote$Train", "size", "I", false)
def tyX10 : Nat → FieldType := fun k => match k with
  | 0 => .array .int
  | _ => .int
abbrev wsX100 : List Cond := u_ws RX10 TX10 2
theorem nmX10 : ∀ a, a < 2 → ∀ b, b < 2 → a ≠ b → (TX10 a).2.1 ≠ (TX10 b).2.1 := by decide +kernel
theorem tyX10_ok : ∀ k, k < 2 → parseFieldDescriptor (TX10 k).2.2.1 = some (tyX10 k) := by decide +kernel
abbrev cX10_init : ByteArray := prog_12_method_1_code
def yX10_init : MethodName := ⟨RX10, "<init>", "()V"⟩
abbrev cX10_at : ByteArray := prog_12_method_2_code
def yX10_at : MethodName := ⟨RX10, "at", "(I)I"⟩
abbrev cX10_put : ByteArray := prog_12_method_3_code
def yX10_put : MethodName := ⟨RX10, "put", "(I)V"⟩
abbrev cX10_endsWithMark : ByteArray := prog_12_method_4_code
def yX10_endsWithMark : MethodName := ⟨RX10, "endsWithMark", "()Z"⟩
abbrev cX10_join : ByteArray := prog_12_method_5_code
def yX10_join : MethodName := ⟨RX10, "join", "(ZI)V"⟩
abbrev cX10_longest : ByteArray := prog_12_method_6_code
def yX10_longest : MethodName := ⟨RX10, "longest", "()I"⟩
abbrev cX10_stretch : ByteArray := prog_12_method_7_code
def yX10_stretch : MethodName := ⟨RX10, "stretch", "(I)I"⟩
abbrev cX10_copyFrom : ByteArray := prog_12_method_8_code
def yX10_copyFrom : MethodName := ⟨RX10, "copyFrom", "(LPulseRemote$Train;)V"⟩
def RX11 : String := "PulseRemote"
def TX11 : u_T := fun k => match k with
  | 0 => ("PulseRemote", "state", "LPulseRemote$State;", false)
  | 1 => ("PulseRemote", "saved", "[LPulseRemote$State;", true)
  | 2 => ("PulseRemote", "savedCount", "I", false)
  | 3 => ("PulseRemote", "text", "LPulseRemote$Text;", true)
  | 4 => ("PulseRemote", "draft", "LPulseRemote$Table;", true)
  | 5 => ("PulseRemote", "scratch", "LPulseRemote$Train;", true)
  | 6 => ("PulseRemote", "buttonFrames", "[LPulseRemote$Train;", true)
  | 7 => ("PulseRemote", "frames", "LPulseRemote$FrameList;", true)
  | 8 => ("PulseRemote", "decoder", "LPulseRemote$Decoder;", true)
  | 9 => ("PulseRemote", "presses", "LPulseRemote$PressList;", true)
  | 10 => ("PulseRemote", "learner", "LPulseRemote$Learner;", true)
  | _ => ("PulseRemote", "collision", "LPulseRemote$Collision;", true)
def tyX11 : Nat → FieldType := fun k => match k with
  | 0 => .object "PulseRemote$State"
  | 1 => .array (.object "PulseRemote$State")
  | 2 => .int
  | 3 => .object "PulseRemote$Text"
  | 4 => .object "PulseRemote$Table"
  | 5 => .object "PulseRemote$Train"
  | 6 => .array (.object "PulseRemote$Train")
  | 7 => .object "PulseRemote$FrameList"
  | 8 => .object "PulseRemote$Decoder"
  | 9 => .object "PulseRemote$PressList"
  | 10 => .object "PulseRemote$Learner"
  | _ => .object "PulseRemote$Collision"
abbrev wsX110 : List Cond := u_ws RX11 TX11 12
theorem nmX11 : ∀ a, a < 12 → ∀ b, b < 12 → a ≠ b → (TX11 a).2.1 ≠ (TX11 b).2.1 := by decide +kernel
theorem tyX11_ok : ∀ k, k < 12 → parseFieldDescriptor (TX11 k).2.2.1 = some (tyX11 k) := by decide +kernel
abbrev cX11_init : ByteArray := prog_1_method_1_code
def yX11_init : MethodName := ⟨RX11, "<init>", "()V"⟩
abbrev cX11_addProtocol : ByteArray := prog_1_method_2_code
def yX11_addProtocol : MethodName := ⟨RX11, "addProtocol", "(IIII)I"⟩
abbrev cX11_setLengths : ByteArray := prog_1_method_3_code
def yX11_setLengths : MethodName := ⟨RX11, "setLengths", "(IIIIII)I"⟩
abbrev cX11_protocol : ByteArray := prog_1_method_4_code
def yX11_protocol : MethodName := ⟨RX11, "protocol", "(II)I"⟩
abbrev cX11_count : ByteArray := prog_1_method_5_code
def yX11_count : MethodName := ⟨RX11, "count", "(I)I"⟩
abbrev cX11_learn : ByteArray := prog_1_method_6_code
def yX11_learn : MethodName := ⟨RX11, "learn", "(I)I"⟩
abbrev cX11_addButton : ByteArray := prog_1_method_8_code
def yX11_addButton : MethodName := ⟨RX11, "addButton", "(II)I"⟩
abbrev cX11_button : ByteArray := prog_1_method_9_code
def yX11_button : MethodName := ⟨RX11, "button", "(II)I"⟩
abbrev cX11_setGap : ByteArray := prog_1_method_10_code
def yX11_setGap : MethodName := ⟨RX11, "setGap", "(I)I"⟩
abbrev cX11_setHold : ByteArray := prog_1_method_11_code
def yX11_setHold : MethodName := ⟨RX11, "setHold", "(I)I"⟩
abbrev cX11_setTolerance : ByteArray := prog_1_method_12_code
def yX11_setTolerance : MethodName := ⟨RX11, "setTolerance", "(I)I"⟩
abbrev cX11_append : ByteArray := prog_1_method_16_code
def yX11_append : MethodName := ⟨RX11, "append", "(II)I"⟩
abbrev cX11_send : ByteArray := prog_1_method_17_code
def yX11_send : MethodName := ⟨RX11, "send", "(IIII)I"⟩
abbrev cX11_sendShort : ByteArray := prog_1_method_18_code
def yX11_sendShort : MethodName := ⟨RX11, "sendShort", "(III)I"⟩
abbrev cX11_clear : ByteArray := prog_1_method_19_code
def yX11_clear : MethodName := ⟨RX11, "clear", "(I)I"⟩
abbrev cX11_overlay : ByteArray := prog_1_method_20_code
def yX11_overlay : MethodName := ⟨RX11, "overlay", "(III)I"⟩
abbrev cX11_distort : ByteArray := prog_1_method_21_code
def yX11_distort : MethodName := ⟨RX11, "distort", "(III)I"⟩
abbrev cX11_duration : ByteArray := prog_1_method_22_code
def yX11_duration : MethodName := ⟨RX11, "duration", "(II)I"⟩
abbrev cX11_length : ByteArray := prog_1_method_23_code
def yX11_length : MethodName := ⟨RX11, "length", "(I)I"⟩
abbrev cX11_frameCount : ByteArray := prog_1_method_24_code
def yX11_frameCount : MethodName := ⟨RX11, "frameCount", "(I)I"⟩
abbrev cX11_frame : ByteArray := prog_1_method_25_code
def yX11_frame : MethodName := ⟨RX11, "frame", "(III)I"⟩
abbrev cX11_deviation : ByteArray := prog_1_method_26_code
def yX11_deviation : MethodName := ⟨RX11, "deviation", "(II)I"⟩
abbrev cX11_pressCount : ByteArray := prog_1_method_27_code
def yX11_pressCount : MethodName := ⟨RX11, "pressCount", "(I)I"⟩
abbrev cX11_press : ByteArray := prog_1_method_28_code
def yX11_press : MethodName := ⟨RX11, "press", "(III)I"⟩
abbrev cX11_strayCount : ByteArray := prog_1_method_29_code
def yX11_strayCount : MethodName := ⟨RX11, "strayCount", "(I)I"⟩
abbrev cX11_neededTolerance : ByteArray := prog_1_method_30_code
def yX11_neededTolerance : MethodName := ⟨RX11, "neededTolerance", "(I)I"⟩
abbrev cX11_undo : ByteArray := prog_1_method_33_code
def yX11_undo : MethodName := ⟨RX11, "undo", "()I"⟩
abbrev cX11_inRange : ByteArray := prog_1_method_34_code
def yX11_inRange : MethodName := ⟨RX11, "inRange", "(III)Z"⟩
abbrev cX11_isSlot : ByteArray := prog_1_method_35_code
def yX11_isSlot : MethodName := ⟨RX11, "isSlot", "(I)Z"⟩
abbrev cX11_isLength : ByteArray := prog_1_method_36_code
def yX11_isLength : MethodName := ⟨RX11, "isLength", "(I)Z"⟩
abbrev cX11_lengthsPossible : ByteArray := prog_1_method_37_code
def yX11_lengthsPossible : MethodName := ⟨RX11, "lengthsPossible", "(IIIIII)Z"⟩
abbrev cX11_matches : ByteArray := prog_1_method_38_code
def yX11_matches : MethodName := ⟨RX11, "matches", "(III)Z"⟩
abbrev cX11_saveState : ByteArray := prog_1_method_39_code
def yX11_saveState : MethodName := ⟨RX11, "saveState", "()V"⟩
abbrev cX11_appendScratch : ByteArray := prog_1_method_40_code
def yX11_appendScratch : MethodName := ⟨RX11, "appendScratch", "(LPulseRemote$Train;I)I"⟩
abbrev cX11_worstDeviation : ByteArray := prog_1_method_41_code
def yX11_worstDeviation : MethodName := ⟨RX11, "worstDeviation", "(ILPulseRemote$Train;)I"⟩
abbrev cX11_toleranceFor : ByteArray := prog_1_method_42_code
def yX11_toleranceFor : MethodName := ⟨RX11, "toleranceFor", "(II)I"⟩
def RX12 : String := "PulseRemoteModel"
def TX12 : u_T := fun k => match k with
  | _ => ("", "", "", false)
def tyX12 : Nat → FieldType := fun k => match k with
  | _ => .int
abbrev wsX120 : List Cond := u_ws RX12 TX12 0
theorem nmX12 : ∀ a, a < 0 → ∀ b, b < 0 → a ≠ b → (TX12 a).2.1 ≠ (TX12 b).2.1 := by decide +kernel
theorem tyX12_ok : ∀ k, k < 0 → parseFieldDescriptor (TX12 k).2.2.1 = some (tyX12 k) := by decide +kernel
def RJ9 : String := "java/lang/Math"
def TJ9 : u_T := fun k => match k with
  | _ => ("", "", "", false)
def tyJ9 : Nat → FieldType := fun k => match k with
  | _ => .int
abbrev wsJ90 : List Cond := u_ws RJ9 TJ9 0
theorem nmJ9 : ∀ a, a < 0 → ∀ b, b < 0 → a ≠ b → (TJ9 a).2.1 ≠ (TJ9 b).2.1 := by decide +kernel
theorem tyJ9_ok : ∀ k, k < 0 → parseFieldDescriptor (TJ9 k).2.2.1 = some (tyJ9 k) := by decide +kernel
abbrev cJ9_abs_0f7a4 : ByteArray := prog_15_method_59_code
def yJ9_abs_0f7a4 : MethodName := ⟨RJ9, "abs", "(I)I"⟩
abbrev cJ9_max_7cf53 : ByteArray := prog_15_method_65_code
def yJ9_max_7cf53 : MethodName := ⟨RJ9, "max", "(II)I"⟩
abbrev cJ9_min_7cf53 : ByteArray := prog_15_method_69_code
def yJ9_min_7cf53 : MethodName := ⟨RJ9, "min", "(II)I"⟩
def RJ10 : String := "java/lang/System"
def TJ10 : u_T := fun k => match k with
  | _ => ("", "", "", false)
def tyJ10 : Nat → FieldType := fun k => match k with
  | _ => .int
abbrev wsJ100 : List Cond := u_ws RJ10 TJ10 0
theorem nmJ10 : ∀ a, a < 0 → ∀ b, b < 0 → a ≠ b → (TJ10 a).2.1 ≠ (TJ10 b).2.1 := by decide +kernel
theorem tyJ10_ok : ∀ k, k < 0 → parseFieldDescriptor (TJ10 k).2.2.1 = some (tyJ10 k) := by decide +kernel
def RL : String := "PulseRemoteLaw"
abbrev cL_cell : ByteArray := method_2_code
def yL_cell : MethodName := ⟨RL, "cell", "([II)I"⟩
abbrev cL_low : ByteArray := method_3_code
def yL_low : MethodName := ⟨RL, "low", "(II)I"⟩
abbrev cL_tale : ByteArray := method_4_code
def yL_tale : MethodName := ⟨RL, "tale", "(LPulseRemote;)J"⟩
abbrev cL_does : ByteArray := method_5_code
def yL_does : MethodName := ⟨RL, "does", "(LPulseRemote;I)I"⟩
abbrev cL_law : ByteArray := code
def yL_law : MethodName := ⟨RL, "law", "([I)Z"⟩
abbrev vwCl : List vw_C := [(RX0, TX0, 5), (RX1, TX1, 10), (RX2, TX2, 6), (RX3, TX3, 4), (RX4, TX4, 10), (RX5, TX5, 8), (RX6, TX6, 9), (RX7, TX7, 5), (RX8, TX8, 5), (RX9, TX9, 5), (RX10, TX10, 2), (RX11, TX11, 12)]
